/** The boundary cases of promises 9 to 16: for each call the least and the greatest that is there, and those beyond. */
final class LookEdgeTest {
    private static final int[] FAR = {Integer.MIN_VALUE, Integer.MIN_VALUE + 1, -256, -2, -1, 20, 21, 40, 41, 256, 6000, 65536,
        Integer.MAX_VALUE - 1, Integer.MAX_VALUE};

    private final Check check;

    private LookEdgeTest(Check check) {
        this.check = check;
    }

    static void run(Check check) {
        LookEdgeTest test = new LookEdgeTest(check);
        test.bytesOfJournal();
        test.octets();
        test.transactions();
        test.fullTransactions();
        test.deadlines();
        test.queue();
        test.accounts();
        test.entries();
        test.reports();
        test.copies();
        test.nothingWhileDown();
        test.againAfterRecovery();
    }

    /** t0 from A to B is returned, t1 from A to B rejected, t2 from A to B held, w from D to C waits, u from C to D queued. */
    private static PaymentHub lively() {
        PaymentHub hub = Check.filled(new PaymentHub(1000, 0), 3, "1");
        Check.work(hub, 3);
        Check.say(hub, Check.answer("q", "t0", 'A'));
        Check.say(hub, Check.answer("r", "t1", 'R'));
        Check.say(hub, Check.back("s", "t0", "0.4"));
        Check.say(hub, Check.payment("b", Check.transfer("w", 'D', 'C', "10.01"), Check.transfer("u", 'C', 'D', "2")));
        hub.work();
        hub.send();
        return hub;
    }

    private void bytesOfJournal() {
        check.group("promise 9: how many bytes the journal has");
        PaymentHub hub = new PaymentHub(1000, 0);
        check.due("none", hub.journal(), 0);
        Check.say(hub, Check.row(0, 1, "1"));
        check.due("a P", hub.journal(), 85);
        check.due("refused", Check.say(hub, Check.row(0, 1, "1")), 3);
        check.due("no more", hub.journal(), 85);
        hub.work();
        check.due("and held", hub.journal(), 92);
        hub.work();
        hub.send();
        check.due("no more", hub.journal(), 92);
        hub.fail(0, 3);
        hub.tick(30);
        check.due("with the bytes that came", hub.journal(), 95);
        hub.recover();
        check.due("without them", hub.journal(), 92);
    }

    private void octets() {
        check.group("promise 10: byte k (from 0) of the journal; NONE when there is none");
        PaymentHub hub = new PaymentHub(1000, 0);
        for (int k : FAR) {
            check.due("octet(" + k + ") of none", hub.octet(k), -1);
        }
        check.due("octet(0) of none", hub.octet(0), -1);
        hub.tick(225);
        Check.say(hub, Check.row(0, 1, "1"));
        hub.work();
        check.due("the first", hub.octet(0), 77);
        check.due("the second", hub.octet(1), 82);
        check.due("255 is not below 0", hub.octet(90), 255);
        check.due("the last", hub.octet(91), 80);
        check.due("behind it", hub.octet(92), -1);
        check.due("ahead of the first", hub.octet(-1), -1);
        for (int k : new int[] {Integer.MIN_VALUE, 93, 4000, 5000, 5246, 5247, 5248, 65536, Integer.MAX_VALUE}) {
            check.due("octet(" + k + ")", hub.octet(k), -1);
        }
        hub.fail(0, 2);
        hub.tick(30);
        check.due("that came", hub.octet(93), 1);
        check.due("behind it", hub.octet(94), -1);
        hub.recover();
        check.due("taken off", hub.octet(92), -1);
    }

    private void transactions() {
        check.group("promise 11: NONE when there is none, what is not 0 .. 4");
        PaymentHub none = new PaymentHub(0, 0);
        for (int what = -1; what <= 5; what++) {
            check.due("transaction(0, " + what + ") of none", none.transaction(0, what), -1);
        }
        PaymentHub hub = lively();
        int[][] want = {{6, 100, 0, 1, 30}, {5, 100, 0, 1, 30}, {3, 100, 0, 1, 30}, {2, 1001, 3, 2, 0}, {1, 200, 2, 3, 0}};
        for (int t = -1; t <= 5; t++) {
            for (int what = -1; what <= 5; what++) {
                boolean there = t >= 0 && t <= 4 && what >= 0 && what <= 4;
                check.due("transaction(" + t + ", " + what + ")", hub.transaction(t, what), there ? want[t][what] : -1);
            }
        }
        for (int far : FAR) {
            check.due("transaction(" + far + ", 0)", hub.transaction(far, 0), -1);
            check.due("transaction(0, " + far + ")", hub.transaction(0, far), -1);
            check.due("transaction(" + far + ", " + far + ")", hub.transaction(far, far), -1);
        }
    }

    private void fullTransactions() {
        check.group("promise 11: twenty transactions");
        PaymentHub hub = Check.filled(new PaymentHub(0, 0), 20, "1");
        check.due("the last", hub.transaction(19, 1), 100);
        for (int what = -1; what <= 5; what++) {
            check.due("behind it", hub.transaction(20, what), -1);
        }
        check.due("greatest amount", Check.filled(new PaymentHub(0, 0), 1, "999999.99").transaction(0, 1), 99999999);
        check.due("least amount", Check.filled(new PaymentHub(0, 0), 1, "0.01").transaction(0, 1), 1);
        for (char debtor = 'A'; debtor <= 'D'; debtor++) {
            for (char creditor = 'A'; creditor <= 'D'; creditor++) {
                PaymentHub one = new PaymentHub(0, 0);
                if (Check.say(one, Check.payment("a", Check.transfer("x", debtor, creditor, "1"))) == 0) {
                    check.due("debtor", one.transaction(0, 2), debtor - 'A');
                    check.due("creditor", one.transaction(0, 3), creditor - 'A');
                }
            }
        }
    }

    private void deadlines() {
        check.group("promise 11: the deadline that it was held until last (whatever became of it), or 0");
        PaymentHub hub = Check.filled(new PaymentHub(100, 0), 2, "1");
        check.due("received", hub.transaction(0, 4), 0);
        hub.tick(7);
        Check.work(hub, 2);
        check.due("held", hub.transaction(0, 4), 37);
        check.due("waits", hub.transaction(1, 4), 0);
        hub.tick(30);
        check.due("rejected", hub.transaction(0, 4), 37);
        check.due("received again", hub.transaction(1, 4), 0);
        hub.work();
        check.due("held", hub.transaction(1, 4), 67);
        Check.say(hub, Check.answer("q", "t1", 'A'));
        check.due("settled", hub.transaction(1, 4), 67);
        Check.say(hub, Check.back("r", "t1", "1"));
        check.due("returned", hub.transaction(1, 4), 67);
    }

    private void queue() {
        check.group("promise 12: the transaction at place k (from 0) of the queue; NONE when there is none");
        PaymentHub hub = new PaymentHub(0, 0);
        check.due("queue(0) of none", hub.queue(0), -1);
        Check.filled(hub, 20, "1");
        for (int k = 0; k < 20; k++) {
            check.due("queue(" + k + ")", hub.queue(k), k);
        }
        for (int far : FAR) {
            check.due("queue(" + far + ")", hub.queue(far), -1);
        }
        hub.work();
        check.due("the first left", hub.queue(0), 1);
        check.due("the last", hub.queue(18), 19);
        check.due("behind it", hub.queue(19), -1);
        Check.work(hub, 19);
        check.due("all left", hub.queue(0), -1);
    }

    private void accounts() {
        check.group("promise 13: 0 when there is none such, what is not 0 .. 2");
        PaymentHub hub = lively();
        int[][] want = {{940, 100, 2}, {1060, 0, 2}, {1000, 0, 0}, {1000, 0, 0}};
        for (int a = -1; a <= 4; a++) {
            for (int what = -1; what <= 3; what++) {
                boolean there = a >= 0 && a <= 3 && what >= 0 && what <= 2;
                check.due("account(" + a + ", " + what + ")", hub.account(a, what), there ? want[a][what] : 0);
            }
        }
        for (int far : FAR) {
            check.due("account(" + far + ", 0)", hub.account(far, 0), 0);
            check.due("account(0, " + far + ")", hub.account(0, far), 0);
            check.due("account(" + far + ", " + far + ")", hub.account(far, far), 0);
        }
        PaymentHub below = Check.filled(new PaymentHub(0, 1000000), 1, "10000");
        below.work();
        Check.say(below, Check.answer("q", "t0", 'A'));
        check.due("least balance", below.account(0, 0), -1000000);
        check.due("balance of the creditor", below.account(1, 0), 1000000);
    }

    private void entries() {
        check.group("promise 14: entry k (from 0, the earliest); 0 when there is none");
        PaymentHub none = new PaymentHub(1000, 0);
        PaymentHub hub = lively();
        int[][] want = {{-100, 40}, {100, -40}, {}, {}};
        for (int a = -1; a <= 4; a++) {
            for (int k = -1; k <= 3; k++) {
                boolean there = a >= 0 && a <= 3 && k >= 0 && k < want[a].length;
                check.due("entry(" + a + ", " + k + ")", hub.entry(a, k), there ? want[a][k] : 0);
                check.due("entry(" + a + ", " + k + ") of none", none.entry(a, k), 0);
            }
        }
        for (int far : FAR) {
            check.due("entry(" + far + ", 0)", hub.entry(far, 0), 0);
            check.due("entry(0, " + far + ")", hub.entry(0, far), 0);
            check.due("entry(" + far + ", " + far + ")", hub.entry(far, far), 0);
        }
    }

    private void reports() {
        check.group("promise 15: NONE when there is none, what is not 0 .. 2");
        PaymentHub none = Check.filled(new PaymentHub(1000, 0), 1, "1");
        none.work();
        PaymentHub hub = lively();
        int[][] want = {{0, 4, 1}, {1, 5, 0}, {0, 6, 0}};
        for (int r = -1; r <= 3; r++) {
            for (int what = -1; what <= 3; what++) {
                boolean there = r >= 0 && r <= 2 && what >= 0 && what <= 2;
                check.due("report(" + r + ", " + what + ")", hub.report(r, what), there ? want[r][what] : -1);
                check.due("report(" + r + ", " + what + ") of none", none.report(r, what), -1);
            }
        }
        for (int far : FAR) {
            check.due("report(" + far + ", 0)", hub.report(far, 0), -1);
            check.due("report(0, " + far + ")", hub.report(0, far), -1);
            check.due("report(" + far + ", " + far + ")", hub.report(far, far), -1);
        }
    }

    private void copies() {
        check.group("promise 16: how many copies of report r went out (0 if none)");
        PaymentHub hub = lively();
        check.due("ahead of the first", hub.copies(-1), 0);
        check.due("sent", hub.copies(0), 1);
        check.due("not sent", hub.copies(1), 0);
        check.due("the last", hub.copies(2), 0);
        check.due("no report", hub.copies(3), 0);
        for (int far : FAR) {
            check.due("copies(" + far + ")", hub.copies(far), 0);
        }
        hub.send();
        check.due("sent now", hub.copies(1), 1);
        hub.send();
        check.due("the last is sent", hub.copies(2), 1);
        check.due("none more", hub.send(), -1);
        check.due("no report", hub.copies(3), 0);
        check.due("of none", new PaymentHub(0, 0).copies(0), 0);
    }

    private void nothingWhileDown() {
        check.group("promises 11 to 15: or the hub is down");
        PaymentHub hub = lively();
        hub.fail(0, 1);
        check.due("down", hub.send(), -9);
        for (int i = -1; i <= 5; i++) {
            for (int what = -1; what <= 5; what++) {
                check.due("transaction(" + i + ", " + what + ")", hub.transaction(i, what), -1);
                check.due("account(" + i + ", " + what + ")", hub.account(i, what), 0);
                check.due("entry(" + i + ", " + what + ")", hub.entry(i, what), 0);
                check.due("report(" + i + ", " + what + ")", hub.report(i, what), -1);
            }
            check.due("queue(" + i + ")", hub.queue(i), -1);
        }
        check.due("copies as ever", hub.copies(0) * 10 + hub.copies(1), 11);
        check.due("journal as ever", hub.octet(hub.journal() - 1), 83);
    }

    private void againAfterRecovery() {
        check.group("after a power failure it is again what its journal says");
        PaymentHub hub = lively();
        hub.fail(0, 300);
        hub.work();
        hub.recover();
        PaymentHub same = lively();
        check.due("journal", Check.bytes(hub, 0), Check.bytes(same, 0));
        for (int i = 0; i <= 4; i++) {
            for (int what = 0; what <= 4; what++) {
                check.due("transaction(" + i + ", " + what + ")", hub.transaction(i, what), same.transaction(i, what));
                check.due("report(" + i + ", " + what + ")", hub.report(i, what), same.report(i, what));
                check.due("account(" + i + ", " + what + ")", hub.account(i, what), same.account(i, what));
                check.due("entry(" + i + ", " + what + ")", hub.entry(i, what), same.entry(i, what));
            }
            check.due("copies(" + i + ")", hub.copies(i), same.copies(i));
        }
        check.due("queue", Check.queue(hub), Check.queue(same));
    }
}
