/** The boundary cases of THE JOURNAL, of what records do, and of POWER: a method for each sentence that names one. */
final class RecordEdgeTest {
    private static final int MOST = 20;

    private final Check check;

    private RecordEdgeTest(Check check) {
        this.check = check;
    }

    static void run(Check check) {
        RecordEdgeTest test = new RecordEdgeTest(check);
        test.checkByte();
        test.checkOfMessages();
        test.deadlineBytes();
        test.latestDeadline();
        test.behindTheQueue();
        test.leavesTheQueue();
        test.reservedUntilTheEnd();
        test.wakesAllThatWait();
        test.wakesTheFirst();
        test.wakesNone();
        test.wakesByDebtor();
        test.mostEntriesAndReports();
        test.statusForGood();
        test.cutsOfEachKind();
        test.recordsAheadStand();
        test.textIsGone();
        test.lookedAtAsEver();
        test.refusedChangesNothing();
    }

    private static PaymentHub oneQueued(int clock) {
        PaymentHub hub = new PaymentHub(1000, 0);
        for (int left = clock; left > 0; left -= 1000) {
            hub.tick(Math.min(left, 1000));
        }
        Check.say(hub, Check.row(0, 1, "1"));
        return hub;
    }

    private void heldAt(int clock, String record) {
        PaymentHub hub = oneQueued(clock);
        int from = hub.journal();
        hub.work();
        check.due("record at clock " + clock, Check.bytes(hub, from), record);
        check.due("deadline at clock " + clock, hub.transaction(0, 4), clock + 30);
    }

    private void checkByte() {
        check.group("CHECK: the sum of all bytes ahead of it in the record, mod 251");
        heldAt(143, "72 4 0 0 0 173 249");
        heldAt(144, "72 4 0 0 0 174 250");
        heldAt(145, "72 4 0 0 0 175 0");
        heldAt(146, "72 4 0 0 0 176 1");
        heldAt(65505, "72 4 0 0 255 255 84");
        heldAt(65330, "72 4 0 0 255 80 160");
        heldAt(65424, "72 4 0 0 255 174 3");
    }

    private void checkOfMessages() {
        check.group("CHECK of messages of all lengths");
        for (int more = 0; more <= 9; more++) {
            PaymentHub hub = new PaymentHub(0, 0);
            String name = "zzzz".substring(0, 1 + more % 4);
            Check.say(hub, Check.payment(name, Check.transfer(name, 'D', 'C', "1".repeat(1 + more % 6) + ".99")));
            int last = hub.journal() - 1;
            int sum = 0;
            for (int k = 0; k < last; k++) {
                sum += hub.octet(k);
            }
            check.due("check", hub.octet(last), sum % 251);
            check.due("number of data", hub.octet(1), last - 2);
        }
    }

    private void deadlineBytes() {
        check.group("the deadline, three bytes, the highest first");
        heldAt(0, "72 4 0 0 0 30 106");
        heldAt(97, "72 4 0 0 0 127 203");
        heldAt(98, "72 4 0 0 0 128 204");
        heldAt(225, "72 4 0 0 0 255 80");
        heldAt(226, "72 4 0 0 1 0 77");
        heldAt(65505, "72 4 0 0 255 255 84");
        heldAt(65506, "72 4 0 1 0 0 77");
        heldAt(131042, "72 4 0 2 0 0 78");
    }

    /** 16777185 is the latest clock that is meant; to come there takes more calls than the document speaks of. */
    private void latestDeadline() {
        check.group("a clock of 16777186 and more is not meant");
        heldAt(16777184, "72 4 0 255 255 254 87");
        heldAt(16777185, "72 4 0 255 255 255 88");
        PaymentHub hub = oneQueued(16777185);
        hub.work();
        hub.tick(29);
        check.due("held", hub.transaction(0, 0), 3);
        hub.tick(1);
        check.due("expired", hub.transaction(0, 0), 5);
    }

    private void behindTheQueue() {
        check.group("its T are transactions with the next numbers, in their order, RECEIVED, behind those in the QUEUE");
        PaymentHub hub = new PaymentHub(10000, 0);
        check.due("an empty queue", Check.queue(hub), "");
        Check.say(hub, Check.row(0, 1, "1"));
        check.due("one", Check.queue(hub), "0");
        Check.say(hub, Check.row(1, 3, "1"));
        check.due("three more", Check.queue(hub), "0 1 2 3");
        Check.work(hub, 4);
        check.due("all left it", Check.queue(hub), "");
        Check.say(hub, Check.row(4, 2, "1"));
        check.due("the next numbers", Check.queue(hub), "4 5");
        PaymentHub full = Check.filled(new PaymentHub(0, 0), MOST, "1");
        check.due("twenty", Check.queue(full), "0 1 2 3 4 5 6 7 8 9 10 11 12 13 14 15 16 17 18 19");
        for (int t = 0; t < MOST; t++) {
            check.due("received", full.transaction(t, 0), 1);
            check.due("work()", full.work(), 100 + t);
        }
        check.due("none left", full.work(), -1);
    }

    private void leavesTheQueue() {
        check.group("72: the transaction leaves the queue; 87: it leaves the queue and WAITS");
        PaymentHub hub = Check.filled(new PaymentHub(100, 0), 3, "1");
        check.due("held", hub.work(), 0);
        check.due("queue", Check.queue(hub), "1 2");
        check.due("waits", hub.work(), 101);
        check.due("queue", Check.queue(hub), "2");
        check.due("waits", hub.work(), 102);
        check.due("queue", Check.queue(hub), "");
        check.due("statuses", hub.transaction(0, 0) * 100 + hub.transaction(1, 0) * 10 + hub.transaction(2, 0), 322);
    }

    private void reservedUntilTheEnd() {
        check.group("its amount is reserved on its debtor; then it is not reserved any more");
        for (int end = 0; end < 3; end++) {
            PaymentHub hub = Check.filled(new PaymentHub(200, 0), 3, "1");
            check.due("nothing", hub.account(0, 1), 0);
            hub.work();
            check.due("one", hub.account(0, 1), 100);
            hub.tick(1);
            hub.work();
            check.due("two", hub.account(0, 1), 200);
            check.due("all that is available", hub.work(), 102);
            check.due("a waiting one is not reserved", hub.account(0, 1), 200);
            if (end < 2) {
                Check.say(hub, Check.answer("q", "t0", end == 0 ? 'A' : 'R'));
            } else {
                hub.tick(29);
            }
            check.due("one again", hub.account(0, 1), 100);
            check.due("balance", hub.account(0, 0), end == 0 ? 100 : 200);
            check.due("entries", hub.account(0, 2), end == 0 ? 1 : 0);
            check.due("nothing on the creditor", hub.account(1, 1), 0);
        }
    }

    private void wakesAllThatWait() {
        check.group("those that wait are RECEIVED again, behind the queue, by ascending numbers");
        PaymentHub hub = Check.filled(new PaymentHub(100, 0), MOST, "1");
        Check.work(hub, MOST);
        check.due("nineteen wait", Check.queue(hub), "");
        hub.tick(30);
        check.due("all nineteen", Check.queue(hub), "1 2 3 4 5 6 7 8 9 10 11 12 13 14 15 16 17 18 19");
        check.due("the first is held now", hub.work(), 1);
        check.due("the next waits again", hub.work(), 102);
        check.due("the next waits again", hub.work(), 103);
        Check.say(hub, Check.answer("q", "t1", 'R'));
        check.due("behind the queue", Check.queue(hub), "4 5 6 7 8 9 10 11 12 13 14 15 16 17 18 19 2 3");
    }

    private void wakesTheFirst() {
        check.group("those that wait are RECEIVED again: also transaction 0, and the last one");
        PaymentHub hub = Check.filled(new PaymentHub(100, 0), 1, "2");
        check.due("0 waits", hub.work(), 100);
        Check.say(hub, Check.payment("b", Check.transfer("u", 'C', 'A', "1"), Check.transfer("v", 'A', 'C', "2.01")));
        Check.work(hub, 2);
        check.due("queue", Check.queue(hub), "");
        Check.say(hub, Check.answer("q", "u", 'A'));
        check.due("queue", Check.queue(hub), "0 2");
        check.due("statuses", hub.transaction(0, 0) * 100 + hub.transaction(1, 0) * 10 + hub.transaction(2, 0), 141);
        check.due("just enough now", hub.work(), 0);
        check.due("waits again", hub.work(), 102);
    }

    private void wakesNone() {
        check.group("not 72, 87, 83 or a P");
        PaymentHub hub = new PaymentHub(100, 0);
        Check.say(hub, Check.payment("a", Check.transfer("x", 'B', 'C', "1"), Check.transfer("y", 'A', 'B', "1.01"),
                Check.transfer("z", 'A', 'B', "1")));
        check.due("held", hub.work(), 0);
        check.due("waits", hub.work(), 101);
        Check.say(hub, Check.answer("b", "x", 'A'));
        check.due("of C none waits", Check.queue(hub), "2");
        hub.send();
        check.due("83 wakes none", Check.queue(hub), "2");
        hub.work();
        check.due("72 wakes none", Check.queue(hub), "");
        Check.say(hub, Check.payment("c", Check.transfer("u", 'A', 'B', "1.02")));
        check.due("a P wakes none", Check.queue(hub), "3");
        hub.work();
        check.due("87 wakes none", Check.queue(hub), "");
    }

    /** One is held from A to B, and one of each account waits: A's is 1, B's 2, C's 3, D's 4. */
    private static PaymentHub oneOfEachWaits() {
        PaymentHub hub = new PaymentHub(100, 0);
        Check.say(hub, Check.payment("a", Check.transfer("t0", 'A', 'B', "1"), Check.transfer("t1", 'A', 'C', "9"),
                Check.transfer("t2", 'B', 'A', "9")));
        Check.say(hub, Check.payment("b", Check.transfer("t3", 'C', 'B', "9"), Check.transfer("t4", 'D', 'A', "9")));
        Check.work(hub, 5);
        return hub;
    }

    private void wakesByDebtor() {
        check.group("whose debtor is the creditor (Q with A), or the debtor (otherwise)");
        PaymentHub settled = oneOfEachWaits();
        check.due("queue", Check.queue(settled), "");
        Check.say(settled, Check.answer("q", "t0", 'A'));
        check.due("Q with A", Check.queue(settled), "2");
        Check.say(settled, Check.back("r", "t0", "1"));
        check.due("R", Check.queue(settled), "2 1");
        PaymentHub rejected = oneOfEachWaits();
        Check.say(rejected, Check.answer("q", "t0", 'R'));
        check.due("Q with R", Check.queue(rejected), "1");
        PaymentHub expired = oneOfEachWaits();
        expired.tick(30);
        check.due("88", Check.queue(expired), "1");
    }

    private void mostEntriesAndReports() {
        check.group("an entry changes the balance; each end makes the next REPORT: as many as there can be");
        PaymentHub hub = Check.filled(new PaymentHub(1000000, 0), MOST, "1");
        for (int t = 0; t < MOST; t++) {
            hub.work();
            Check.say(hub, Check.answer("q" + t, "t" + t, 'A'));
            Check.say(hub, Check.back("r" + t, "t" + t, "0.7"));
        }
        check.due("entries of A", hub.account(0, 2), 40);
        check.due("entries of B", hub.account(1, 2), 40);
        check.due("entries of C", hub.account(2, 2), 0);
        check.due("balance of A", hub.account(0, 0), 1000000 - 20 * 30);
        check.due("balance of B", hub.account(1, 0), 1000000 + 20 * 30);
        check.due("first of A", hub.entry(0, 0), -100);
        check.due("second of A", hub.entry(0, 1), 70);
        check.due("last of A", hub.entry(0, 39), 70);
        check.due("behind", hub.entry(0, 40), 0);
        check.due("first of B", hub.entry(1, 0), 100);
        check.due("second of B", hub.entry(1, 1), -70);
        check.due("last of B", hub.entry(1, 39), -70);
        check.due("behind", hub.entry(1, 40), 0);
        check.due("last report", hub.report(39, 0), 19);
        check.due("its status", hub.report(39, 1), 6);
        check.due("behind", hub.report(40, 0), -1);
    }

    private void statusForGood() {
        check.group("a report: the transaction and the status that it has then (for good)");
        PaymentHub hub = Check.filled(new PaymentHub(1000, 0), 1, "1");
        hub.work();
        Check.say(hub, Check.answer("q", "t0", 'A'));
        check.due("settled", hub.report(0, 1), 4);
        check.due("one report", hub.report(1, 1), -1);
        Check.say(hub, Check.back("r", "t0", "1"));
        check.due("still settled", hub.report(0, 1), 4);
        check.due("returned", hub.report(1, 1), 6);
        check.due("of the same", hub.report(0, 0) + hub.report(1, 0), 0);
        check.due("two reports", hub.report(2, 1), -1);
    }

    /** A hub whose next step writes a record of one kind: 0 a P, 1 a Q, 2 an R, 3 held, 4 waits, 5 expired, 6 sent. */
    private static PaymentHub aheadOf(int kind) {
        PaymentHub hub = new PaymentHub(kind == 4 ? 0 : 1000, 0);
        Check.say(hub, Check.row(0, 1, "1"));
        if (kind != 3 && kind != 4) {
            hub.work();
        }
        if (kind == 2 || kind == 6) {
            Check.say(hub, Check.answer("q", "t0", 'A'));
        }
        hub.tick(29);
        return hub;
    }

    private static int step(PaymentHub hub, int kind) {
        return switch (kind) {
            case 0 -> Check.say(hub, Check.row(1, 1, "1"));
            case 1 -> Check.say(hub, Check.answer("n", "t0", 'A'));
            case 2 -> Check.say(hub, Check.back("n", "t0", "1"));
            case 3, 4 -> hub.work();
            case 5 -> hub.tick(1);
            default -> hub.send();
        };
    }

    private void cutsOfEachKind() {
        int[] kinds = {77, 77, 77, 72, 87, 88, 83};
        for (int kind = 0; kind < kinds.length; kind++) {
            check.group("only some of its first bytes come to the end of the journal; record " + kinds[kind]);
            PaymentHub whole = aheadOf(kind);
            int from = whole.journal();
            step(whole, kind);
            int length = whole.journal() - from;
            check.due("kind", whole.octet(from), kinds[kind]);
            for (int bytes = 0; bytes <= length + 2; bytes++) {
                cut(kind, bytes, whole, from);
            }
            cut(kind, 299, whole, from);
            cut(kind, 300, whole, from);
        }
    }

    private void cut(int kind, int bytes, PaymentHub whole, int from) {
        PaymentHub hub = aheadOf(kind);
        int length = whole.journal() - from;
        int came = Math.min(bytes, length - 1);
        check.due("fail(0, " + bytes + ")", hub.fail(0, bytes), true);
        check.due("answer", step(hub, kind), kind == 5 ? 30 : -9);
        check.due("journal() with " + bytes + " bytes", hub.journal(), from + came);
        for (int k = Math.max(0, from - 3); k < from + came; k++) {
            check.due("octet(" + k + ")", hub.octet(k), whole.octet(k));
        }
        check.due("octet behind", hub.octet(from + came), -1);
        check.due("recover()", hub.recover(), true);
        check.due("taken off", hub.journal(), from);
        check.due("octet behind", hub.octet(from), -1);
        check.due("status as before", hub.transaction(0, 0), aheadOf(kind).transaction(0, 0));
        check.due("once more", step(hub, kind), kind == 4 ? 100 : kind == 5 ? 31 : 0);
        check.due("the record", Check.bytes(hub, from), Check.bytes(whole, from));
        check.due("status", hub.transaction(0, 0), whole.transaction(0, 0));
        check.due("copies", hub.copies(0), kind == 6 ? 2 : 0);
    }

    private void recordsAheadStand() {
        check.group("records written in it ahead of that one stand");
        for (int n = 0; n <= 4; n++) {
            PaymentHub hub = Check.filled(new PaymentHub(1000, 0), 3, "1");
            Check.work(hub, 3);
            int from = hub.journal();
            hub.fail(n, 2);
            check.due("tick(30)", hub.tick(30), 30);
            check.due("down", hub.work(), n < 3 ? -9 : -1);
            check.due("bytes", hub.journal(), from + 4 * Math.min(n, 3) + (n < 3 ? 2 : 0));
            check.due("recover()", hub.recover(), n < 3);
            for (int t = 0; t < 3; t++) {
                check.due("status of " + t, hub.transaction(t, 0), t < n ? 5 : 3);
                check.due("report " + t, hub.report(t, 0), t < n ? t : -1);
            }
            check.due("the others expire then", hub.tick(0), 30);
            check.due("the last", hub.transaction(2, 0), 5);
            check.due("bytes", hub.journal(), from + 12);
            if (n == 3) {
                check.due("the fourth record", hub.send(), -9);
            }
        }
    }

    private void textIsGone() {
        check.group("a text that was submitted is gone");
        PaymentHub hub = new PaymentHub(1000, 0);
        hub.fail(0, 5);
        check.due("submit()", Check.say(hub, Check.row(0, 1, "1")), -9);
        hub.recover();
        check.due("no text", hub.put('x', 1), 1);
        check.due("no transaction", hub.transaction(0, 0), -1);
        check.due("queue", hub.queue(0), -1);
    }

    private void lookedAtAsEver() {
        check.group("while it is DOWN the journal and its copies of reports can be looked at as ever");
        PaymentHub hub = Check.filled(new PaymentHub(1000, 0), 2, "1");
        Check.work(hub, 2);
        hub.tick(30);
        hub.send();
        String before = Check.bytes(hub, 0);
        int from = hub.journal();
        hub.fail(0, 3);
        check.due("send()", hub.send(), -9);
        check.due("the bytes ahead", Check.bytes(hub, 0), before + " 83 1 1");
        check.due("octet(-1)", hub.octet(-1), -1);
        check.due("octet behind", hub.octet(from + 3), -1);
        check.due("copies(0)", hub.copies(0), 1);
        check.due("copies(1)", hub.copies(1), 1);
        check.due("copies(2)", hub.copies(2), 0);
        check.due("copies(-1)", hub.copies(-1), 0);
        check.due("all else is not there", hub.report(0, 0) + hub.transaction(0, 0) + hub.queue(0), -3);
        check.due("nor accounts", hub.account(0, 0) + hub.entry(0, 0), 0);
    }

    private void refusedChangesNothing() {
        check.group("a call that is refused changes nothing but what it says");
        PaymentHub hub = aheadOf(6);
        Check.put(hub, "<a>");
        String before = picture(hub);
        hub.put(0, 1);
        hub.put('a', 9);
        hub.fail(51, 0);
        hub.fail(0, 301);
        hub.recover();
        hub.tick(-1);
        hub.tick(1001);
        hub.work();
        check.due("all that can be looked at", picture(hub), before);
        check.due("the text", Check.put(hub, "</a>"), 7);
        check.due("a refused message", hub.submit(), 2);
        check.due("all that can be looked at", picture(hub), before);
        check.due("its text is gone", hub.put('a', 1), 1);
        hub.submit();
        for (String text : new String[] {Check.row(0, 1, "1"), Check.answer("n", "t0", 'A'), Check.back("n", "t0", "2")}) {
            check.due("refused", Check.say(hub, text) > 2, true);
        }
        check.due("all that can be looked at", picture(hub), before);
        check.due("the clock", hub.tick(0), 29);
        check.due("no power failure was said", hub.send(), 0);
    }

    private static String picture(PaymentHub hub) {
        StringBuilder all = new StringBuilder().append(hub.journal()).append(' ').append(hub.octet(hub.journal() - 1));
        for (int what = 0; what <= 4; what++) {
            all.append(' ').append(hub.transaction(0, what)).append(' ').append(hub.transaction(1, what));
        }
        for (int a = 0; a < 4; a++) {
            all.append(' ').append(hub.account(a, 0)).append(' ').append(hub.account(a, 1)).append(' ').append(hub.account(a, 2));
            all.append(' ').append(hub.entry(a, 0)).append(' ').append(hub.entry(a, 1));
        }
        for (int r = 0; r < 2; r++) {
            all.append(' ').append(hub.report(r, 0)).append(hub.report(r, 1)).append(hub.report(r, 2)).append(hub.copies(r));
        }
        return all.append(' ').append(Check.queue(hub)).toString();
    }
}
