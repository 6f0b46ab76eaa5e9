/** Promises 7 and 8: when the power fails, what then stands, and what is there after recovery. */
final class PowerTest {
    static void run(Check check) {
        check.group("promise 7");
        arguments(check);
        cuts(check);
        counting(check);
        replacing(check);
        check.group("promise 8");
        recovering(check);
        hiding(check);
    }

    private static String payment(int i) {
        return Check.payment("p" + i, Check.transfer("t" + i, 'A', 'B', "1"));
    }

    private static void arguments(Check check) {
        PaymentHub hub = new PaymentHub(1000, 0);
        int[] bad = {-1, 51, Integer.MIN_VALUE, Integer.MAX_VALUE};
        for (int n : bad) {
            check.due("fail(" + n + ", 0)", hub.fail(n, 0), false);
        }
        int[] badBytes = {-1, 301, Integer.MIN_VALUE, Integer.MAX_VALUE};
        for (int bytes : badBytes) {
            check.due("fail(0, " + bytes + ")", hub.fail(0, bytes), false);
        }
        check.due("nothing was said", Check.say(hub, payment(0)), 0);
        check.due("fail(50, 300)", hub.fail(50, 300), true);
        check.due("fail(0, 0)", hub.fail(0, 0), true);
        check.due("a wrong one changes nothing", hub.fail(51, 0), false);
        check.due("so the power fails", hub.work(), -9);
        check.due("fail while down", hub.fail(0, 0), false);
        hub.recover();
        check.due("so it does not fail again", hub.work(), 0);
    }

    private static void cuts(Check check) {
        String text = payment(0);
        int length = text.length() + 6 + 3;
        int[] said = {0, 1, 2, 3, length - 2, length - 1, length, length + 1, 300};
        for (int bytes : said) {
            PaymentHub hub = new PaymentHub(1000, 0);
            PaymentHub whole = new PaymentHub(1000, 0);
            Check.say(whole, text);
            check.due("length", whole.journal(), length);
            hub.fail(0, bytes);
            check.due("submit", Check.say(hub, text), -9);
            int came = Math.min(bytes, length - 1);
            check.due("bytes that came of " + bytes, hub.journal(), came);
            for (int k = 0; k < came; k++) {
                check.due("byte " + k, hub.octet(k), whole.octet(k));
            }
            check.due("no byte behind", hub.octet(came), -1);
            check.due("recover", hub.recover(), true);
            check.due("taken off", hub.journal(), 0);
            check.due("no transaction", hub.transaction(0, 0), -1);
            check.due("submit again", Check.say(hub, text), 0);
            check.due("all of it now", Check.bytes(hub, 0), Check.bytes(whole, 0));
        }
    }

    private static void counting(Check check) {
        PaymentHub hub = new PaymentHub(1000, 0);
        hub.fail(3, 1);
        check.due("first", Check.say(hub, payment(0)), 0);
        check.due("a refused one does not count", Check.say(hub, payment(0)), 3);
        check.due("second", Check.say(hub, payment(1)), 0);
        check.due("third", hub.work(), 0);
        check.due("fourth", hub.work(), -9);
        hub.recover();
        check.due("it is over", hub.work(), 1);
        check.due("it is over", Check.say(hub, payment(2)), 0);
        hub = new PaymentHub(1000000, 0);
        for (int i = 0; i < 9; i++) {
            Check.say(hub, payment(i));
        }
        hub.fail(50, 0);
        for (int i = 0; i < 9; i++) {
            check.due("work", hub.work(), i);
        }
        hub.tick(30);
        for (int i = 0; i < 9; i++) {
            check.due("send", hub.send(), i);
        }
        for (int i = 9; i < 20; i++) {
            check.due("P", Check.say(hub, payment(i)), 0);
            check.due("work", hub.work(), i);
        }
        check.due("49 records", hub.tick(29), 59);
        Check.say(hub, Check.answer("q", "t9", 'A'));
        check.due("50 records", hub.report(9, 1), 4);
        check.due("the 51st", hub.send(), -9);
    }

    private static void replacing(Check check) {
        PaymentHub hub = new PaymentHub(1000, 0);
        hub.fail(0, 5);
        hub.fail(1, 2);
        check.due("the later one counts", Check.say(hub, payment(0)), 0);
        hub.fail(1, 4);
        check.due("from now on", hub.work(), 0);
        check.due("and then", Check.say(hub, payment(1)), -9);
        check.due("its bytes", hub.journal(), 85 + 7 + 4);
    }

    private static void recovering(Check check) {
        PaymentHub hub = new PaymentHub(1000, 0);
        Check.put(hub, "abc");
        check.due("not down", hub.recover(), false);
        check.due("then the text stays", hub.put('d', 1), 4);
        hub.submit();
        Check.say(hub, payment(0));
        hub.work();
        Check.put(hub, "abc");
        hub.tick(3);
        hub.fail(0, 2);
        Check.put(hub, "<x/>");
        int whole = hub.journal();
        hub.tick(27);
        check.due("a part", hub.journal(), whole + 2);
        check.due("down", hub.recover(), true);
        check.due("once", hub.recover(), false);
        check.due("part taken off", hub.journal(), whole);
        check.due("the text is empty", hub.put('a', 1), 1);
        check.due("the clock stays; it expires now", hub.tick(0), 30);
        check.due("status", hub.transaction(0, 0), 5);
        check.due("record", hub.journal(), whole + 4);
    }

    private static void hiding(Check check) {
        PaymentHub hub = new PaymentHub(1000, 0);
        Check.say(hub, Check.payment("a", Check.transfer("x", 'A', 'B', "1"), Check.transfer("y", 'A', 'B', "1"),
                Check.transfer("z", 'A', 'B', "1")));
        hub.work();
        hub.work();
        Check.say(hub, Check.answer("b", "x", 'A'));
        hub.send();
        int whole = hub.journal();
        String bytes = Check.bytes(hub, 0);
        hub.fail(0, 0);
        check.due("Q", Check.say(hub, Check.answer("c", "y", 'A')), -9);
        check.due("journal", Check.bytes(hub, 0), bytes);
        check.due("copies", hub.copies(0), 1);
        for (int what = 0; what <= 4; what++) {
            check.due("transaction", hub.transaction(0, what), -1);
            check.due("account", hub.account(0, what), 0);
            check.due("report", hub.report(0, what), -1);
        }
        check.due("queue", hub.queue(0), -1);
        check.due("entry", hub.entry(0, 0), 0);
        hub.recover();
        check.due("journal", hub.journal(), whole);
        check.due("transaction", hub.transaction(1, 0), 3);
        check.due("account", hub.account(0, 0), 900);
        check.due("reserved", hub.account(0, 1), 100);
        check.due("entries", hub.account(0, 2), 1);
        check.due("entry", hub.entry(0, 0), -100);
        check.due("report", hub.report(0, 2), 1);
        check.due("queue", hub.queue(0), 2);
    }
}
