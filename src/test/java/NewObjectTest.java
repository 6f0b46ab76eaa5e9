/** Promise 1, and what a hub without any record answers. */
final class NewObjectTest {
    static void run(Check check) {
        check.group("promise 1");
        balances(check, 0, 0, 0);
        balances(check, 1, 0, 1);
        balances(check, 999999, 0, 999999);
        balances(check, 1000000, 0, 1000000);
        balances(check, 1000001, 0, 1000000);
        balances(check, -1, 0, 0);
        balances(check, Integer.MAX_VALUE, 0, 1000000);
        balances(check, Integer.MIN_VALUE, 0, 0);
        limit(check, 0, "0.01", 100);
        limit(check, -1, "0.01", 100);
        limit(check, Integer.MIN_VALUE, "0.01", 100);
        limit(check, 1, "0.01", 0);
        limit(check, 1, "0.02", 100);
        limit(check, 1000000, "10000", 0);
        limit(check, 1000000, "10000.01", 100);
        limit(check, 1000001, "10000", 0);
        limit(check, 1000001, "10000.01", 100);
        limit(check, Integer.MAX_VALUE, "10000.01", 100);
        emptyEverything(check);
        apartFromEachOther(check);
    }

    private static void balances(Check check, int open, int limit, int want) {
        PaymentHub hub = new PaymentHub(open, limit);
        for (int a = 0; a < 4; a++) {
            check.due("balance for open " + open, hub.account(a, 0), want);
        }
    }

    private static void limit(Check check, int limit, String amount, int want) {
        PaymentHub hub = new PaymentHub(0, limit);
        Check.say(hub, Check.payment("a", Check.transfer("x", 'A', 'B', amount)));
        check.due("work() with limit " + limit + " for " + amount, hub.work(), want);
    }

    private static void emptyEverything(Check check) {
        PaymentHub hub = new PaymentHub(5, 5);
        check.due("journal()", hub.journal(), 0);
        check.due("octet(0)", hub.octet(0), -1);
        check.due("transaction(0, 0)", hub.transaction(0, 0), -1);
        check.due("queue(0)", hub.queue(0), -1);
        check.due("report(0, 0)", hub.report(0, 0), -1);
        check.due("copies(0)", hub.copies(0), 0);
        check.due("work()", hub.work(), -1);
        check.due("send()", hub.send(), -1);
        check.due("recover()", hub.recover(), false);
        check.due("tick(0)", hub.tick(0), 0);
        for (int a = 0; a < 4; a++) {
            check.due("reserved", hub.account(a, 1), 0);
            check.due("entries", hub.account(a, 2), 0);
            check.due("entry", hub.entry(a, 0), 0);
        }
        check.due("submit() of no text", hub.submit(), 1);
        check.due("put", hub.put('<', 1), 1);
        check.due("DOWN", PaymentHub.DOWN, -9);
        check.due("NONE", PaymentHub.NONE, -1);
    }

    private static void apartFromEachOther(Check check) {
        PaymentHub one = new PaymentHub(1000, 0);
        PaymentHub other = new PaymentHub(2000, 0);
        Check.say(one, Check.payment("a", Check.transfer("x", 'A', 'B', "1")));
        one.tick(7);
        check.due("journal of the other", other.journal(), 0);
        check.due("clock of the other", other.tick(0), 0);
        check.due("balance of the other", other.account(0, 0), 2000);
    }
}
