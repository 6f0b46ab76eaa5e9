/** The boundary cases of the RULES: a method for each rule, on both sides of what it asks for. */
final class RuleEdgeTest {
    private static final String[] STATUSES = {"", "RECEIVED", "WAITS", "HELD", "SETTLED", "REJECTED", "RETURNED"};

    private final Check check;

    private RuleEdgeTest(Check check) {
        this.check = check;
    }

    static void run(Check check) {
        RuleEdgeTest test = new RuleEdgeTest(check);
        test.messageName();
        test.messageNameAndPower();
        test.mostMessageNames();
        test.numberOfTransfers();
        test.sumOfTransfers();
        test.greatestSum();
        test.checkDigits();
        test.sameLetter();
        test.sameNameInMessage();
        test.sameNameAsTransaction();
        test.twentyTransactions();
        test.bytesOfJournal();
        test.bytesAheadOfTheRecord();
        test.nameOfOriginal();
        test.statusOfOriginal();
        test.amountOfReturn();
        test.availableOfCreditor();
        test.availableBelowZero();
        test.firstRuleOfFollowers();
    }

    private void says(PaymentHub hub, String text, int want) {
        int before = hub.journal();
        check.due("submit() of " + text, Check.say(hub, text), want);
        check.due("a record only when accepted", hub.journal() > before, want == 0);
    }

    /** Transaction x from A to B of 1.00, of the status given. */
    private static PaymentHub withStatus(int status) {
        PaymentHub hub = new PaymentHub(status == 2 ? 99 : 1000, 0);
        Check.say(hub, Check.payment("p", Check.transfer("x", 'A', 'B', "1")));
        if (status >= 2) {
            hub.work();
        }
        if (status >= 4) {
            Check.say(hub, Check.answer("q", "x", status == 5 ? 'R' : 'A'));
        }
        if (status == 6) {
            Check.say(hub, Check.back("r", "x", "0.99"));
        }
        return hub;
    }

    private static String transfer(String name) {
        return Check.transfer(name, 'A', 'B', "1");
    }

    private void messageName() {
        check.group("rule 3: no accepted message had its I");
        PaymentHub hub = withStatus(6);
        for (String name : new String[] {"p", "q", "r"}) {
            says(hub, Check.payment(name, transfer("n")), 3);
            says(hub, Check.answer(name, "none", 'A'), 3);
            says(hub, Check.back(name, "none", "1"), 3);
            says(hub, Check.answer(name + "0", "none", 'A'), 10);
            says(hub, Check.answer("0" + name, "none", 'A'), 10);
            says(hub, Check.answer(name + name, "none", 'A'), 10);
        }
        says(hub, Check.answer("x", "none", 'A'), 10);
        says(hub, Check.payment("n", Check.transfer("n", 'A', 'A', "1")), 7);
        says(hub, Check.payment("n", transfer("n")), 0);
        says(hub, Check.payment("n", transfer("m")), 3);
        PaymentHub four = new PaymentHub(0, 0);
        says(four, Check.payment("abcd", transfer("x")), 0);
        says(four, Check.answer("abcd", "none", 'A'), 3);
        says(four, Check.answer("abce", "none", 'A'), 10);
        says(four, Check.answer("bbcd", "none", 'A'), 10);
        says(four, Check.answer("abc", "none", 'A'), 10);
        says(four, Check.answer("bcd", "none", 'A'), 10);
    }

    private void messageNameAndPower() {
        check.group("rule 3: a message at which the power failed was not accepted");
        PaymentHub hub = withStatus(1);
        hub.fail(0, 300);
        check.due("submit()", Check.say(hub, Check.payment("n", transfer("n"))), -9);
        hub.recover();
        says(hub, Check.payment("n", transfer("n")), 0);
        says(hub, Check.payment("p", transfer("m")), 3);
    }

    /** Each transaction comes in one P, one Q and one R, so no more than sixty messages are accepted. */
    private void mostMessageNames() {
        check.group("rule 3: the I of each of sixty messages");
        PaymentHub hub = new PaymentHub(1000000, 0);
        String letters = "abcdefghijklmnopqrst";
        for (int t = 0; t < 20; t++) {
            String name = letters.substring(t, t + 1);
            check.due("submit()", Check.say(hub, Check.payment("p" + name, transfer(name))), 0);
            check.due("work()", hub.work(), t);
        }
        for (int t = 0; t < 20; t++) {
            String name = letters.substring(t, t + 1);
            check.due("submit()", Check.say(hub, Check.answer("q" + name, name, 'A')), 0);
            check.due("submit()", Check.say(hub, Check.back("r" + name, name, "1")), 0);
        }
        for (String name : new String[] {"pa", "pt", "qa", "qt", "ra", "rt", "rk"}) {
            check.due("submit()", Check.say(hub, Check.answer(name, "none", 'A')), 3);
        }
        check.due("submit()", Check.say(hub, Check.answer("pu", "none", 'A')), 10);
    }

    private void numberOfTransfers() {
        check.group("rule 4: N is the number of its T");
        for (int count = 1; count <= 3; count++) {
            String text = Check.row(0, count, "1");
            for (int number = 0; number <= 99; number += number == 5 ? 94 : 1) {
                String written = text.replaceFirst("<N>.", "<N>" + number);
                says(new PaymentHub(0, 0), written, number == count ? 0 : 4);
            }
            says(new PaymentHub(0, 0), text.replaceFirst("<N>", "<N>0"), 0);
            says(new PaymentHub(0, 0), text.replaceFirst("<N>", "<N>1"), 4);
        }
    }

    private void sumOfTransfers() {
        check.group("rule 5: S is the sum of their A");
        String[] sums = {"5.98", "5.99", "6.00", "6", "6.0", "000006", "6.01", "1", "2", "3", "0.01", "999999.99"};
        for (String sum : sums) {
            String text = "<P><I>a</I><N>3</N><S>" + sum + "</S>" + Check.transfer("x", 'A', 'B', "1.5") + Check.transfer("y", 'A', 'B', "1.50")
                    + Check.transfer("z", 'A', 'B', "3") + "</P>";
            says(new PaymentHub(0, 0), text, sum.replaceAll("0", "").matches("6[.]?") ? 0 : 5);
        }
        String one = Check.row(0, 1, "0.01");
        says(new PaymentHub(0, 0), one, 0);
        says(new PaymentHub(0, 0), one.replace("<S>0.01", "<S>0.02"), 5);
    }

    private void greatestSum() {
        check.group("rule 5: the greatest S, and a sum beyond it");
        says(new PaymentHub(0, 0), Check.row(0, 1, "999999.99"), 0);
        says(new PaymentHub(0, 0), Check.row(0, 3, "333333.33"), 0);
        String beyond = Check.row(0, 2, "500000");
        for (String sum : new String[] {"999999.99", "100000", "0.01", "000000.1"}) {
            says(new PaymentHub(0, 0), beyond.replace("<S>1000000", "<S>" + sum), 5);
        }
        says(new PaymentHub(0, 0), beyond, 2);
    }

    private void checkDigits() {
        check.group("rule 6: of each D and C, (1000 + 100 * place + the two digits) mod 97 is 1");
        for (int place = 0; place < 3; place++) {
            for (char letter = 'A'; letter <= 'D'; letter++) {
                char other = letter == 'B' ? 'C' : 'B';
                for (int digits = 0; digits <= 99; digits++) {
                    int want = (1000 + 100 * (letter - 'A') + digits) % 97 == 1 ? 0 : 6;
                    String code = letter + String.format("%02d", digits);
                    String asDebtor = Check.transfer("z", letter, other, "1").replace("<D>" + Check.full(letter), "<D>" + code);
                    String asCreditor = Check.transfer("z", other, letter, "1").replace("<C>" + Check.full(letter), "<C>" + code);
                    says(new PaymentHub(0, 0), threeWith(place, asDebtor), want);
                    says(new PaymentHub(0, 0), threeWith(place, asCreditor), want);
                }
            }
        }
    }

    private static String threeWith(int place, String transfer) {
        String[] transfers = {transfer("u"), transfer("v"), transfer("w")};
        transfers[place] = transfer;
        return Check.payment("a", transfers);
    }

    private void sameLetter() {
        check.group("rule 7: no T has the same letter in D and C");
        for (int place = 0; place < 3; place++) {
            for (char debtor = 'A'; debtor <= 'D'; debtor++) {
                for (char creditor = 'A'; creditor <= 'D'; creditor++) {
                    says(new PaymentHub(0, 0), threeWith(place, Check.transfer("z", debtor, creditor, "1")), debtor == creditor ? 7 : 0);
                }
            }
        }
    }

    private void sameNameInMessage() {
        check.group("rule 8: no two of its T have the same E");
        String[] names = {"aaa", "aab", "aba", "abb", "abc"};
        for (String three : names) {
            String text = Check.payment("m", transfer(three.substring(0, 1)), transfer(three.substring(1, 2)), transfer(three.substring(2)));
            says(new PaymentHub(0, 0), text, three.equals("abc") ? 0 : 8);
        }
        says(new PaymentHub(0, 0), Check.payment("m", transfer("a"), transfer("a")), 8);
        says(new PaymentHub(0, 0), Check.payment("m", transfer("a"), transfer("aa"), transfer("aaaa")), 0);
        says(new PaymentHub(0, 0), Check.payment("m", transfer("0"), transfer("00"), transfer("000")), 0);
        says(new PaymentHub(0, 0), Check.payment("m", transfer("a"), transfer("&#97;")), 8);
        says(new PaymentHub(0, 0), Check.payment("m", transfer("m")), 0);
        PaymentHub hub = new PaymentHub(0, 0);
        says(hub, Check.payment("m", transfer("u"), transfer("v"), transfer("v")), 8);
        says(hub, Check.payment("m", transfer("v")), 0);
        says(hub, Check.payment("n", transfer("u")), 0);
    }

    private void sameNameAsTransaction() {
        check.group("rule 8: and no transaction had it");
        for (int status = 1; status <= 6; status++) {
            PaymentHub hub = withStatus(status);
            check.due("status", hub.transaction(0, 0), status);
            says(hub, Check.payment("a", transfer("x")), 8);
            says(hub, Check.payment("a", transfer("u"), transfer("x")), 8);
            says(hub, Check.payment("a", transfer("u"), transfer("v"), transfer("x")), 8);
            says(hub, Check.payment("a", transfer("xx")), 0);
            says(hub, Check.payment("b", transfer("u"), transfer("v")), 0);
            says(hub, Check.payment("c", transfer("v")), 8);
        }
    }

    private void twentyTransactions() {
        check.group("rule 9: with it there are at most 20 transactions");
        for (int there = 15; there <= 20; there++) {
            for (int more = 1; more <= 3; more++) {
                PaymentHub hub = Check.filled(new PaymentHub(0, 0), there, "1");
                check.due("the last that is there", hub.transaction(there - 1, 0), 1);
                says(hub, Check.row(50, more, "1"), there + more <= 20 ? 0 : 9);
                check.due("its last", hub.transaction(there + more - 1, 0), there + more <= 20 ? 1 : -1);
                check.due("behind it", hub.transaction(there + more, 0), -1);
            }
        }
    }

    /**
     * A hub whose journal has just so many bytes (3999 or 4000), with t0 held, t17 settled and 19 transactions.
     * 512 calls can't write as much, so these are more than the document speaks of.
     */
    private PaymentHub hubAt(int bytes) {
        PaymentHub hub = new PaymentHub(1000000, 1000000);
        Check.say(hub, Check.payment("pp00", Check.transfer("t0", 'C', 'D', "1")));
        hub.work();
        for (int i = 1; i <= 17; i++) {
            Check.say(hub, Check.payment("pp" + (10 + i), Check.transfer("tt" + (10 + i), 'A', 'B', "12345.67")));
        }
        // only one of A can be held at a time: all the others wait, and again each time that one is returned
        for (int i = 1; i <= 17; i++) {
            Check.work(hub, 18 - i);
            Check.say(hub, Check.answer("qq" + (10 + i), "tt" + (10 + i), 'A'));
            if (i < 17) {
                Check.say(hub, Check.back("rr" + (10 + i), "tt" + (10 + i), "12345.67"));
            }
        }
        for (int i = 0; i < 33 && bytes - hub.journal() > 99; i++) {
            hub.send();
        }
        Check.say(hub, paymentOfRecord(bytes - hub.journal()));
        check.due("bytes of the journal", hub.journal(), bytes);
        check.due("held", hub.transaction(0, 0), 3);
        check.due("settled", hub.transaction(17, 0), 4);
        check.due("19 are there", hub.transaction(18, 0), 1);
        check.due("20 are not", hub.transaction(19, 0), -1);
        return hub;
    }

    /** A payment message whose record has just so many bytes: 83 to 99. */
    private static String paymentOfRecord(int bytes) {
        int more = bytes - 83;
        int digits = Math.min(5, more / 2);
        int names = more - 2 * digits;
        String first = "zzzz".substring(0, 1 + Math.min(3, names));
        String second = "zzzz".substring(0, 1 + Math.max(0, names - 3));
        return Check.payment(first, transfer(second).replace("<A>1", "<A>" + "100000".substring(0, 1 + digits)));
    }

    private void bytesOfJournal() {
        check.group("rule 9: the journal has less than 4000 bytes");
        String[] good = {Check.payment("n", transfer("n")), Check.answer("n", "t0", 'A'), Check.answer("n", "t0", 'R'), Check.back("n", "tt27", "1")};
        for (String text : good) {
            says(hubAt(3998), text, 0);
            says(hubAt(3999), text, 0);
            says(hubAt(4000), text, 9);
            says(hubAt(4001), text, 9);
        }
        PaymentHub below = hubAt(3999);
        says(below, Check.answer("n", "none", 'A'), 10);
        says(below, Check.back("n", "none", "1"), 10);
        says(below, Check.row(50, 2, "1"), 9);
        PaymentHub full = hubAt(4000);
        says(full, Check.answer("n", "none", 'A'), 9);
        says(full, Check.back("n", "none", "1"), 9);
        says(full, Check.payment("n", transfer("tt20")), 8);
        says(full, Check.answer("pp00", "none", 'A'), 3);
    }

    private void bytesAheadOfTheRecord() {
        check.group("the bounds of rule 9 are those of the journal ahead of the record, which may go beyond");
        PaymentHub hub = hubAt(3999);
        says(hub, Check.payment("n", transfer("n")), 0);
        check.due("journal()", hub.journal(), 3999 + 83);
        check.due("its last byte", hub.octet(3999 + 82) >= 0, true);
        check.due("transaction", hub.transaction(19, 0), 1);
        says(hub, Check.answer("m", "t0", 'A'), 9);
        check.due("work() goes on (18 is too great)", hub.work(), 118);
        check.due("work() goes on", hub.work(), 19);
        check.due("tick() goes on", hub.tick(30), 30);
        check.due("expired", hub.transaction(0, 0), 5);
        check.due("send() goes on", hub.send() >= 0, true);
    }

    private void nameOfOriginal() {
        check.group("rule 10: there is a transaction whose E is O");
        PaymentHub hub = new PaymentHub(100000, 0);
        says(hub, Check.answer("n", "abcd", 'A'), 10);
        says(hub, Check.back("n", "abcd", "1"), 10);
        says(hub, Check.payment("m", transfer("abcd"), transfer("0"), transfer("z")), 0);
        Check.work(hub, 3);
        for (String name : new String[] {"abc", "bcd", "abce", "m", "00", "zz", "dcba"}) {
            says(hub, Check.answer("n", name, 'A'), 10);
            says(hub, Check.back("n", name, "1"), 10);
        }
        says(hub, Check.answer("n", "abcd", 'A'), 0);
        says(hub, Check.answer("n1", "0", 'A'), 0);
        says(hub, Check.answer("n2", "z", 'R'), 0);
        check.due("statuses", hub.transaction(0, 0) * 100 + hub.transaction(1, 0) * 10 + hub.transaction(2, 0), 445);
    }

    private void statusOfOriginal() {
        for (int status = 1; status <= 6; status++) {
            check.group("rule 11: it is HELD for a Q, SETTLED for an R; here " + STATUSES[status]);
            for (char verdict : new char[] {'A', 'R'}) {
                PaymentHub hub = withStatus(status);
                says(hub, Check.answer("n", "x", verdict), status == 3 ? 0 : 11);
            }
            PaymentHub hub = withStatus(status);
            says(hub, Check.back("n", "x", "0.01"), status == 4 ? 0 : 11);
        }
    }

    private void amountOfReturn() {
        check.group("rule 12: A is not greater than that transaction's");
        String[] amounts = {"0.01", "0.99", "1", "1.00", "1.01", "1.1", "2", "999999.99"};
        for (String amount : amounts) {
            PaymentHub hub = withStatus(4);
            says(hub, Check.back("n", "x", amount), Double.parseDouble(amount) <= 1 ? 0 : 12);
        }
    }

    /** x from A to B of 10.00 is settled; then y, from B to C, is held if it can be. */
    private static PaymentHub creditorHas(int open, int limit, String reserved) {
        PaymentHub hub = new PaymentHub(open, limit);
        Check.say(hub, Check.payment("p", Check.transfer("x", 'A', 'B', "10"), Check.transfer("y", 'B', 'C', reserved)));
        hub.work();
        Check.say(hub, Check.answer("q", "x", 'A'));
        hub.work();
        return hub;
    }

    private void availableOfCreditor() {
        check.group("rule 13: the AVAILABLE of that one's creditor is not less than A");
        for (int limit = 0; limit <= 250; limit += 250) {
            String reserved = limit == 0 ? "15" : "17.50";
            check.due("y is held", creditorHas(1000, limit, reserved).transaction(1, 0), 3);
            says(creditorHas(1000, limit, reserved), Check.back("n", "x", "4.99"), 0);
            says(creditorHas(1000, limit, reserved), Check.back("n", "x", "5"), 0);
            says(creditorHas(1000, limit, reserved), Check.back("n", "x", "5.01"), 13);
            says(creditorHas(1000, limit, reserved), Check.back("n", "x", "10"), 13);
            says(creditorHas(1000, limit, reserved), Check.back("n", "x", "10.01"), 12);
        }
        PaymentHub nothing = creditorHas(1000, 0, "20");
        says(nothing, Check.back("n", "x", "0.01"), 13);
        says(nothing, Check.answer("m", "y", 'R'), 0);
        says(nothing, Check.back("n", "x", "10"), 0);
    }

    private void availableBelowZero() {
        check.group("rule 13: with the LIMIT a balance goes below 0");
        PaymentHub hub = creditorHas(1000, 500, "25");
        check.due("y is held", hub.transaction(1, 0), 3);
        says(hub, Check.answer("m", "y", 'A'), 0);
        check.due("balance of B", hub.account(1, 0), -500);
        says(hub, Check.back("n", "x", "0.01"), 13);
        says(hub, Check.back("n", "y", "0.01"), 0);
        says(hub, Check.back("o", "x", "0.02"), 13);
        says(hub, Check.back("o", "x", "0.01"), 0);
        check.due("balance of B", hub.account(1, 0), -500);
    }

    private void firstRuleOfFollowers() {
        check.group("the number of the first of these that it breaks");
        PaymentHub hub = creditorHas(1000, 0, "20");
        says(hub, "<R><I>p</I><O>y</O><A>0</A>", 1);
        says(hub, "<R><I>p</I><O>y</O><A>0</A></R>", 2);
        says(hub, Check.back("p", "none", "99"), 3);
        says(hub, Check.back("n", "none", "99"), 10);
        says(hub, Check.back("n", "y", "99"), 11);
        says(hub, Check.back("n", "x", "99"), 12);
        says(hub, Check.back("n", "x", "9"), 13);
        says(hub, Check.answer("p", "none", 'A'), 3);
        says(hub, Check.answer("n", "none", 'A'), 10);
        says(hub, Check.answer("n", "x", 'A'), 11);
        says(hub, Check.answer("n", "y", 'A'), 0);
    }
}
