import java.util.ArrayList;
import java.util.List;

/** Counts the answers that are and are not as due, and knows short ways to talk to a hub. */
final class Check {
    private final List<String> wrong = new ArrayList<>();
    private int right = 0;
    private String group = "";

    void group(String name) {
        group = name;
    }

    void due(String what, long got, long want) {
        if (got == want) {
            right++;
        } else {
            wrong.add(group + ": " + what + " answered " + got + ", due is " + want);
        }
    }

    void due(String what, boolean got, boolean want) {
        due(what, got ? 1 : 0, want ? 1 : 0);
    }

    void due(String what, String got, String want) {
        if (got.equals(want)) {
            right++;
        } else {
            wrong.add(group + ": " + what + " answered '" + got + "', due is '" + want + "'");
        }
    }

    int right() {
        return right;
    }

    List<String> wrong() {
        return wrong;
    }

    /** Puts a text, eight characters a call; answers what the last call answered. */
    static int put(PaymentHub hub, String text) {
        int answer = 0;
        for (int from = 0; from < text.length(); from += 8) {
            String part = text.substring(from, Math.min(from + 8, text.length()));
            answer = hub.put(packed(part), part.length());
        }
        return answer;
    }

    static long packed(String part) {
        long characters = 0;
        for (int i = part.length() - 1; i >= 0; i--) {
            characters = characters << 8 | part.charAt(i);
        }
        return characters;
    }

    static int say(PaymentHub hub, String text) {
        put(hub, text);
        return hub.submit();
    }

    /** A payment message of the transactions given, with the number and the sum that these have. */
    static String payment(String name, String... transactions) {
        StringBuilder all = new StringBuilder();
        java.math.BigDecimal sum = java.math.BigDecimal.ZERO;
        for (String t : transactions) {
            all.append(t);
            sum = sum.add(new java.math.BigDecimal(t.substring(t.indexOf("<A>") + 3, t.indexOf("</A>"))));
        }
        return "<P><I>" + name + "</I><N>" + transactions.length + "</N><S>" + sum.toPlainString() + "</S>" + all + "</P>";
    }

    /** A transaction between the accounts of two letters, with the digits that rule 6 asks for. */
    static String transfer(String name, char debtor, char creditor, String amount) {
        return "<T><E>" + name + "</E><D>" + full(debtor) + "</D><C>" + full(creditor) + "</C><A>" + amount + "</A></T>";
    }

    static String full(char letter) {
        return letter + String.valueOf(68 - 3 * (letter - 'A'));
    }

    /** A payment message p<first> of so many transactions t<first>, .., each of the amount from A to B. */
    static String row(int first, int count, String amount) {
        String[] transfers = new String[count];
        for (int i = 0; i < count; i++) {
            transfers[i] = transfer("t" + (first + i), 'A', 'B', amount);
        }
        return payment("p" + first, transfers);
    }

    /** Submits so many transactions t0, t1, .. from A to B, three a message as far as they go. */
    static PaymentHub filled(PaymentHub hub, int count, String amount) {
        for (int first = 0; first < count; first += 3) {
            say(hub, row(first, Math.min(3, count - first), amount));
        }
        return hub;
    }

    static void work(PaymentHub hub, int times) {
        for (int i = 0; i < times; i++) {
            hub.work();
        }
    }

    static String answer(String name, String original, char verdict) {
        return "<Q><I>" + name + "</I><O>" + original + "</O><V>" + verdict + "</V></Q>";
    }

    static String back(String name, String original, String amount) {
        return "<R><I>" + name + "</I><O>" + original + "</O><A>" + amount + "</A></R>";
    }

    /** The bytes of the journal from one place on, with blanks between. */
    static String bytes(PaymentHub hub, int from) {
        StringBuilder all = new StringBuilder();
        for (int k = from; k < hub.journal(); k++) {
            all.append(k == from ? "" : " ").append(hub.octet(k));
        }
        return all.toString();
    }

    /** The data of the record that begins at a place of the journal, as text. */
    static String data(PaymentHub hub, int from) {
        StringBuilder all = new StringBuilder();
        for (int k = 0; k < hub.octet(from + 1); k++) {
            all.append((char) hub.octet(from + 2 + k));
        }
        return all.toString();
    }

    static String queue(PaymentHub hub) {
        StringBuilder all = new StringBuilder();
        for (int k = 0; hub.queue(k) >= 0; k++) {
            all.append(k == 0 ? "" : " ").append(hub.queue(k));
        }
        return all.toString();
    }
}
