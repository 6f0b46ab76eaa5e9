/** Promises 9 to 16: what can be looked at, with the edges of every argument. */
final class LookTest {
    private static final int[] FAR = {-1, Integer.MIN_VALUE, Integer.MAX_VALUE, 1000};

    static void run(Check check) {
        PaymentHub hub = lively();
        journal(check, hub);
        transactions(check, hub);
        queue(check, hub);
        accounts(check, hub);
        reports(check, hub);
    }

    /** Transaction 0 is returned, 1 held, 2 waits, 3 rejected, 4 settled, 5 received. */
    private static PaymentHub lively() {
        PaymentHub hub = new PaymentHub(1000, 100);
        Check.say(hub, Check.payment("a", Check.transfer("t0", 'A', 'B', "4"), Check.transfer("t1", 'B', 'C', "5.50"),
                Check.transfer("t2", 'C', 'D', "11.01")));
        Check.say(hub, Check.payment("b", Check.transfer("t3", 'D', 'A', "1"), Check.transfer("t4", 'A', 'D', "2"),
                Check.transfer("t5", 'B', 'A', "0.07")));
        hub.tick(2);
        for (int i = 0; i < 5; i++) {
            hub.work();
        }
        Check.say(hub, Check.answer("c", "t0", 'A'));
        Check.say(hub, Check.answer("d", "t3", 'R'));
        Check.say(hub, Check.answer("e", "t4", 'A'));
        Check.say(hub, Check.back("f", "t0", "3.99"));
        hub.send();
        hub.send();
        return hub;
    }

    private static void journal(Check check, PaymentHub hub) {
        check.group("promises 9 and 10");
        int at = 0;
        int records = 0;
        while (at < hub.journal() && records < 100) {
            int count = hub.octet(at + 1);
            int sum = 0;
            for (int k = 0; k < count + 2; k++) {
                sum += hub.octet(at + k);
            }
            check.due("check of record " + records, hub.octet(at + count + 2), sum % 251);
            at += count + 3;
            records++;
        }
        check.due("records", records, 13);
        check.due("journal()", hub.journal(), at);
        check.due("octet(0)", hub.octet(0), 77);
        check.due("last octet", hub.octet(at - 1), 85);
        check.due("octet behind", hub.octet(at), -1);
        for (int k : FAR) {
            check.due("octet(" + k + ")", hub.octet(k), -1);
        }
        PaymentHub late = new PaymentHub(100, 0);
        late.tick(225);
        Check.say(late, Check.payment("a", Check.transfer("x", 'A', 'B', "1")));
        int from = late.journal();
        late.work();
        check.due("a byte is 0 to 255", late.octet(from + 5), 255);
    }

    private static void transactions(Check check, PaymentHub hub) {
        check.group("promise 11");
        int[][] want = {{6, 400, 0, 1, 32}, {3, 550, 1, 2, 32}, {2, 1101, 2, 3, 0}, {5, 100, 3, 0, 32}, {4, 200, 0, 3, 32}, {1, 7, 1, 0, 0}};
        for (int t = 0; t < want.length; t++) {
            for (int what = 0; what < 5; what++) {
                check.due("transaction(" + t + ", " + what + ")", hub.transaction(t, what), want[t][what]);
            }
            check.due("what is 5", hub.transaction(t, 5), -1);
        }
        check.due("transaction(6, 0)", hub.transaction(6, 0), -1);
        check.due("transaction(6, 4)", hub.transaction(6, 4), -1);
        check.due("transaction(20, 1)", hub.transaction(20, 1), -1);
        for (int far : FAR) {
            check.due("transaction(" + far + ", 0)", hub.transaction(far, 0), -1);
            check.due("transaction(0, " + far + ")", hub.transaction(0, far), -1);
        }
    }

    private static void queue(Check check, PaymentHub hub) {
        check.group("promise 12");
        check.due("queue(0)", hub.queue(0), 5);
        check.due("queue(1)", hub.queue(1), -1);
        check.due("queue(20)", hub.queue(20), -1);
        for (int far : FAR) {
            check.due("queue(" + far + ")", hub.queue(far), -1);
        }
        PaymentHub fresh = new PaymentHub(0, 0);
        Check.say(fresh, Check.payment("a", Check.transfer("x", 'A', 'B', "1"), Check.transfer("y", 'B', 'A', "1")));
        Check.say(fresh, Check.payment("b", Check.transfer("z", 'A', 'B', "1")));
        check.due("in the order of the messages", Check.queue(fresh), "0 1 2");
        fresh.work();
        check.due("the first left", Check.queue(fresh), "1 2");
    }

    private static void accounts(Check check, PaymentHub hub) {
        check.group("promises 13 and 14");
        int[][] want = {{799, 0, 3}, {1001, 550, 2}, {1000, 0, 0}, {1200, 0, 1}};
        int[][] entries = {{-400, -200, 399}, {400, -399}, {}, {200}};
        for (int a = 0; a < 4; a++) {
            for (int what = 0; what < 3; what++) {
                check.due("account(" + a + ", " + what + ")", hub.account(a, what), want[a][what]);
            }
            check.due("what is 3", hub.account(a, 3), 0);
            for (int k = 0; k < entries[a].length; k++) {
                check.due("entry(" + a + ", " + k + ")", hub.entry(a, k), entries[a][k]);
            }
            check.due("entry behind", hub.entry(a, entries[a].length), 0);
            check.due("entry(" + a + ", 40)", hub.entry(a, 40), 0);
        }
        check.due("account(4, 0)", hub.account(4, 0), 0);
        check.due("entry(4, 0)", hub.entry(4, 0), 0);
        for (int far : FAR) {
            check.due("account(" + far + ", 0)", hub.account(far, 0), 0);
            check.due("account(0, " + far + ")", hub.account(0, far), 0);
            check.due("entry(" + far + ", 0)", hub.entry(far, 0), 0);
            check.due("entry(0, " + far + ")", hub.entry(0, far), 0);
        }
    }

    private static void reports(Check check, PaymentHub hub) {
        check.group("promises 15 and 16");
        int[][] want = {{0, 4, 1}, {3, 5, 1}, {4, 4, 0}, {0, 6, 0}};
        for (int r = 0; r < want.length; r++) {
            for (int what = 0; what < 3; what++) {
                check.due("report(" + r + ", " + what + ")", hub.report(r, what), want[r][what]);
            }
            check.due("what is 3", hub.report(r, 3), -1);
            check.due("copies(" + r + ")", hub.copies(r), want[r][2]);
        }
        check.due("report(4, 0)", hub.report(4, 0), -1);
        check.due("report(4, 2)", hub.report(4, 2), -1);
        check.due("report(40, 0)", hub.report(40, 0), -1);
        check.due("copies(4)", hub.copies(4), 0);
        check.due("copies(40)", hub.copies(40), 0);
        for (int far : FAR) {
            check.due("report(" + far + ", 0)", hub.report(far, 0), -1);
            check.due("report(0, " + far + ")", hub.report(0, far), -1);
            check.due("copies(" + far + ")", hub.copies(far), 0);
        }
    }
}
