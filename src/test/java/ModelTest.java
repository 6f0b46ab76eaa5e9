import java.util.Random;

/** Runs of calls, drawn with a fixed seed, on a hub and on the model, which must answer alike. */
final class ModelTest {
    private static final String[] AMOUNTS = {"1", "2.5", "0.01", "10", "03.70", "9.99", "20", "100", "0.5", "7", "999999.99", "0", "1."};
    private static final String PIECES = "<>/&#;!- PQRTINSEDCAVOabx019.";

    private final Random random;
    private final Check check;
    private PaymentHub hub;
    private Model model;
    private int names;
    private int transfers;

    private ModelTest(long seed, Check check) {
        random = new Random(seed);
        this.check = check;
    }

    static void run(Check check) {
        for (long seed = 1; seed <= 300 && check.wrong().size() < 20; seed++) {
            check.group("model, seed " + seed);
            new ModelTest(seed, check).drive();
        }
        for (long seed = 1; seed <= 60 && check.wrong().size() < 20; seed++) {
            check.group("model, texts of seed " + seed);
            new ModelTest(seed, check).texts();
        }
    }

    private void begin(int open, int limit) {
        hub = new PaymentHub(open, limit);
        model = new Model(open, limit);
        names = 0;
        transfers = 0;
    }

    private void drive() {
        int[] money = {-5, 0, 100, 500, 1000, 2500, 10000, 1000000, 2000000};
        begin(money[random.nextInt(money.length)], money[random.nextInt(money.length)]);
        int calls = 60 + random.nextInt(240);
        for (int i = 0; i < calls; i++) {
            step();
            if (random.nextInt(4) == 0) {
                look();
            }
        }
        look();
    }

    private void step() {
        int draw = random.nextInt(100);
        if (draw < 18 || transfers == 0) {
            say(mutated(payment()));
        } else if (draw < 36) {
            say(mutated(Check.answer(name(), original(), random.nextInt(3) == 0 ? 'R' : 'A')));
        } else if (draw < 48) {
            say(mutated(Check.back(name(), original(), amount())));
        } else if (draw < 76) {
            check.due("work()", hub.work(), model.work());
        } else if (draw < 84) {
            int n = random.nextInt(10) == 0 ? random.nextInt(2100) - 50 : random.nextInt(20);
            check.due("tick(" + n + ")", hub.tick(n), model.tick(n));
        } else if (draw < 92) {
            check.due("send()", hub.send(), model.send());
        } else if (draw < 95) {
            int n = random.nextInt(20) == 0 ? random.nextInt(120) - 30 : random.nextInt(4);
            int bytes = random.nextInt(20) == 0 ? random.nextInt(400) - 50 : random.nextInt(12);
            check.due("fail(" + n + ", " + bytes + ")", hub.fail(n, bytes), model.fail(n, bytes));
        } else if (draw < 99) {
            check.due("recover()", hub.recover(), model.recover());
        } else {
            long characters = random.nextLong() & 0x7F7F7F7F7F7F7F7FL | 0x2020202020202020L;
            int n = random.nextInt(11) - 1;
            check.due("put(" + characters + ", " + n + ")", hub.put(characters, n), model.put(characters, n));
        }
    }

    private void say(String text) {
        for (int from = 0; from < text.length(); from += 8) {
            String part = text.substring(from, Math.min(from + 8, text.length()));
            check.due("put " + part, hub.put(Check.packed(part), part.length()), model.put(Check.packed(part), part.length()));
        }
        check.due("submit() of " + text, hub.submit(), model.submit());
    }

    private String payment() {
        int count = random.nextInt(12) == 0 ? 4 : 1 + random.nextInt(3);
        StringBuilder all = new StringBuilder();
        String[] parts = new String[count];
        for (int i = 0; i < count; i++) {
            char debtor = (char) ('A' + random.nextInt(random.nextBoolean() ? 4 : 2));
            char creditor = (char) ('A' + (debtor - 'A' + 1 + random.nextInt(3)) % 4);
            if (random.nextInt(40) == 0) {
                creditor = debtor;
            }
            String name = random.nextInt(20) == 0 ? original() : "t" + transfers++;
            parts[i] = Check.transfer(name, debtor, creditor, amount());
        }
        String text;
        try {
            text = Check.payment(name(), parts);
        } catch (NumberFormatException bad) {
            text = "<P/>";
        }
        all.append(text);
        return all.toString();
    }

    private String name() {
        return random.nextInt(15) == 0 && names > 0 ? "m" + random.nextInt(names) : "m" + names++;
    }

    private String original() {
        return "t" + random.nextInt(transfers + 1);
    }

    private String amount() {
        return AMOUNTS[random.nextInt(random.nextInt(10) == 0 ? AMOUNTS.length : 10)];
    }

    /** Most texts stay; some are said in other words, and some get a fault. */
    private String mutated(String text) {
        int draw = random.nextInt(10);
        if (draw < 5) {
            return text;
        }
        String loose = draw < 8 ? loosened(text) : text;
        return draw == 7 || draw == 8 ? faulty(loose) : loose;
    }

    private String loosened(String text) {
        StringBuilder all = new StringBuilder();
        for (int i = 0; i < text.length(); i++) {
            char c = text.charAt(i);
            boolean begins = c == '<';
            boolean inTag = i > 0 && (text.charAt(i - 1) == '<' || text.charAt(i - 1) == '/');
            if (begins && random.nextInt(12) == 0) {
                all.append(new String[] {" ", "<!---->", "<!-- - -->", "  ", "<!--<&-->"}[random.nextInt(5)]);
            }
            if (!inTag && Character.isLetterOrDigit(c) && random.nextInt(12) == 0) {
                all.append("&#").append(c < 100 && random.nextBoolean() ? "0" : "").append((int) c).append(';');
            } else {
                all.append(c == '>' && random.nextInt(20) == 0 ? " >" : c == '>' && random.nextInt(20) == 0 ? "> " : String.valueOf(c));
            }
        }
        return all.toString();
    }

    private String faulty(String text) {
        StringBuilder all = new StringBuilder(text);
        int at = random.nextInt(text.length());
        char piece = PIECES.charAt(random.nextInt(PIECES.length()));
        switch (random.nextInt(3)) {
            case 0 -> all.setCharAt(at, piece);
            case 1 -> all.insert(at, piece);
            default -> all.deleteCharAt(at);
        }
        return all.toString();
    }

    /** Texts in their own right: grown from the grammar, then with faults, on hubs where one transaction is held. */
    private void texts() {
        for (int i = 0; i < 150; i++) {
            begin(10000, 0);
            say(Check.payment("m", Check.transfer("x", 'A', 'B', "10")));
            check.due("work()", hub.work(), model.work());
            String text = random.nextInt(3) > 0 ? loosened(message()) : padding() + element(random.nextInt(2)) + padding();
            int faults = random.nextInt(3);
            for (int f = 0; f < faults && !text.isEmpty(); f++) {
                text = faulty(text);
            }
            say(text.length() > 300 ? text.substring(0, 300) : text);
            look();
        }
    }

    private String message() {
        return switch (random.nextInt(3)) {
            case 0 -> Check.answer("n", "x", 'A');
            case 1 -> Check.back("n", "x", AMOUNTS[random.nextInt(AMOUNTS.length)]);
            default -> Check.payment("n", Check.transfer("y", 'C', 'D', AMOUNTS[random.nextInt(12)]),
                    Check.transfer("z", 'B', 'D', AMOUNTS[random.nextInt(12)]));
        };
    }

    private String padding() {
        return new String[] {"", " ", "<!---->", " <!-- a --> "}[random.nextInt(4)];
    }

    private String element(int depth) {
        String letter = String.valueOf("PQRabT".charAt(random.nextInt(6)));
        if (depth > 4 || random.nextInt(4) == 0) {
            return "<" + letter + (random.nextBoolean() ? "/>" : " />");
        }
        StringBuilder all = new StringBuilder("<" + letter + ">");
        int parts = random.nextInt(4);
        for (int i = 0; i < parts; i++) {
            all.append(switch (random.nextInt(4)) {
                case 0 -> "&#" + (30 + random.nextInt(100)) + ";";
                case 1 -> "<!--" + "-".repeat(random.nextInt(2)) + "a" + "-->";
                case 2 -> "x>";
                default -> element(depth + 1);
            });
        }
        return all + "</" + letter + (random.nextBoolean() ? ">" : " >");
    }

    private void look() {
        int length = model.journal();
        check.due("journal()", hub.journal(), length);
        boolean alike = true;
        for (int k = -1; k <= length; k++) {
            alike = alike && hub.octet(k) == model.octet(k);
        }
        check.due("octets alike", alike, true);
        for (int i = -1; i <= 20; i += i == 3 && random.nextBoolean() ? 15 : 1) {
            for (int what = -1; what <= 5; what++) {
                check.due("transaction(" + i + ", " + what + ")", hub.transaction(i, what), model.transaction(i, what));
            }
            check.due("queue(" + i + ")", hub.queue(i), model.queue(i));
            for (int what = -1; what <= 3; what++) {
                check.due("report(" + i + ", " + what + ")", hub.report(i, what), model.report(i, what));
            }
            check.due("copies(" + i + ")", hub.copies(i), model.copies(i));
        }
        for (int a = -1; a <= 4; a++) {
            for (int what = -1; what <= 3; what++) {
                check.due("account(" + a + ", " + what + ")", hub.account(a, what), model.account(a, what));
            }
            for (int k = -1; k <= 8; k++) {
                check.due("entry(" + a + ", " + k + ")", hub.entry(a, k), model.entry(a, k));
            }
        }
    }
}
