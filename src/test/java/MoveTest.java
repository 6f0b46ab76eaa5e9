/** Promises 4, 5 and 6: what work(), tick() and send() do, and the bytes of their records. */
final class MoveTest {
    static void run(Check check) {
        check.group("promise 4");
        holdAndWait(check);
        wakeOrder(check);
        wakeByEachEnd(check);
        check.group("promise 5");
        clock(check);
        expiry(check);
        tickAndPower(check);
        check.group("promise 6");
        sending(check);
    }

    private static void holdAndWait(Check check) {
        PaymentHub hub = new PaymentHub(1000, 50);
        Check.say(hub, Check.payment("a", Check.transfer("x", 'A', 'B', "10.50"), Check.transfer("y", 'A', 'C', "0.01"),
                Check.transfer("z", 'B', 'A', "10.51")));
        hub.tick(513);
        int from = hub.journal();
        check.due("just what is available", hub.work(), 0);
        check.due("its record", Check.bytes(hub, from), "72 4 0 0 2 31 109");
        check.due("one more", hub.work(), 101);
        check.due("its record", Check.bytes(hub, from + 7), "87 1 1 89");
        check.due("more than available", hub.work(), 102);
        check.due("its record", Check.bytes(hub, from + 11), "87 1 2 90");
        check.due("nothing in the queue", hub.work(), -1);
        check.due("no record for that", hub.journal(), from + 15);
        check.due("reserved", hub.account(0, 1), 1050);
        check.due("balance as it was", hub.account(0, 0), 1000);
        check.due("deadline", hub.transaction(0, 4), 543);
        check.due("no deadline", hub.transaction(1, 4), 0);
        check.due("statuses", hub.transaction(0, 0) * 100 + hub.transaction(1, 0) * 10 + hub.transaction(2, 0), 322);
        hub.fail(0, 3);
        check.due("no record, no failure", hub.work(), -1);
        Check.say(hub, Check.answer("b", "x", 'A'));
        check.due("while down", hub.work(), -9);
    }

    private static void wakeOrder(Check check) {
        PaymentHub hub = new PaymentHub(100, 0);
        Check.say(hub, Check.payment("a", Check.transfer("t0", 'B', 'A', "1"), Check.transfer("t1", 'A', 'B', "2"),
                Check.transfer("t2", 'C', 'B', "2")));
        Check.say(hub, Check.payment("b", Check.transfer("t3", 'A', 'C', "3"), Check.transfer("t4", 'A', 'C', "0.50")));
        check.due("held", hub.work(), 0);
        check.due("waits", hub.work(), 101);
        check.due("of C waits", hub.work(), 102);
        check.due("queue", Check.queue(hub), "3 4");
        Check.say(hub, Check.answer("c", "t0", 'A'));
        check.due("those of A are behind, not those of C", Check.queue(hub), "3 4 1");
        check.due("waits", hub.work(), 103);
        check.due("held", hub.work(), 4);
        check.due("waits", hub.work(), 101);
        check.due("queue", Check.queue(hub), "");
        Check.say(hub, Check.payment("d", Check.transfer("t5", 'D', 'A', "1")));
        check.due("held", hub.work(), 5);
        Check.say(hub, Check.answer("e", "t5", 'A'));
        check.due("by ascending numbers", Check.queue(hub), "1 3");
        check.due("enough now", hub.work(), 1);
        check.due("but not for this", hub.work(), 103);
    }

    private static PaymentHub oneHeldFourWait() {
        PaymentHub hub = new PaymentHub(100, 0);
        Check.say(hub, Check.payment("a", Check.transfer("t0", 'A', 'B', "1"), Check.transfer("t1", 'A', 'B', "1"),
                Check.transfer("t2", 'B', 'C', "1.01")));
        Check.say(hub, Check.payment("b", Check.transfer("t3", 'C', 'D', "1.01"), Check.transfer("t4", 'D', 'C', "1.01")));
        for (int i = 0; i < 5; i++) {
            hub.work();
        }
        return hub;
    }

    private static void wakeByEachEnd(Check check) {
        PaymentHub hub = oneHeldFourWait();
        check.due("all moved", Check.queue(hub), "");
        Check.say(hub, Check.answer("c", "t0", 'A'));
        check.due("Q with A wakes those of the creditor", Check.queue(hub), "2");
        Check.say(hub, Check.back("d", "t0", "0.01"));
        check.due("R wakes those of the debtor", Check.queue(hub), "2 1");
        hub = oneHeldFourWait();
        Check.say(hub, Check.answer("c", "t0", 'R'));
        check.due("Q with R wakes those of the debtor", Check.queue(hub), "1");
        hub = oneHeldFourWait();
        hub.tick(30);
        check.due("expiry wakes those of the debtor", Check.queue(hub), "1");
        hub.send();
        check.due("sending wakes none", Check.queue(hub), "1");
        Check.say(hub, Check.payment("c", Check.transfer("t5", 'A', 'C', "1")));
        check.due("a P wakes none", Check.queue(hub), "1 5");
    }

    private static void clock(Check check) {
        PaymentHub hub = new PaymentHub(0, 0);
        check.due("tick(0)", hub.tick(0), 0);
        check.due("tick(1)", hub.tick(1), 1);
        check.due("tick(1000)", hub.tick(1000), 1001);
        check.due("tick(1001)", hub.tick(1001), 1001);
        check.due("tick(-1)", hub.tick(-1), 1001);
        check.due("tick(least)", hub.tick(Integer.MIN_VALUE), 1001);
        check.due("tick(greatest)", hub.tick(Integer.MAX_VALUE), 1001);
        for (int i = 0; i < 400; i++) {
            hub.tick(1000);
        }
        check.due("a late clock", hub.tick(0), 401001);
        Check.say(hub, Check.payment("a", Check.transfer("x", 'A', 'B', "1")));
        hub = new PaymentHub(1000, 0);
        for (int i = 0; i < 400; i++) {
            hub.tick(1000);
        }
        Check.say(hub, Check.payment("a", Check.transfer("x", 'A', 'B', "1")));
        int from = hub.journal();
        hub.work();
        check.due("late deadline", hub.transaction(0, 4), 400030);
        check.due("three bytes of it", Check.bytes(hub, from), "72 4 0 6 26 158 15");
    }

    private static void expiry(Check check) {
        PaymentHub hub = new PaymentHub(1000, 0);
        Check.say(hub, Check.payment("a", Check.transfer("x", 'A', 'B', "1"), Check.transfer("y", 'B', 'C', "2"),
                Check.transfer("z", 'C', 'D', "3")));
        hub.work();
        hub.tick(10);
        hub.work();
        hub.work();
        hub.tick(19);
        check.due("not yet", hub.transaction(0, 0), 3);
        int from = hub.journal();
        check.due("the first deadline", hub.tick(1), 30);
        check.due("rejected", hub.transaction(0, 0), 5);
        check.due("the record", Check.bytes(hub, from), "88 1 0 89");
        check.due("the other", hub.transaction(1, 0), 3);
        check.due("reserved no more", hub.account(0, 1), 0);
        check.due("no entry", hub.account(0, 2), 0);
        check.due("deadline stays", hub.transaction(0, 4), 30);
        check.due("both others at once", hub.tick(1000), 1030);
        check.due("the records", Check.bytes(hub, from + 4), "88 1 1 90 88 1 2 91");
        check.due("no more records", hub.tick(1000), 2030);
        check.due("journal", hub.journal(), from + 12);
        check.due("reports", hub.report(0, 0) * 100 + hub.report(1, 0) * 10 + hub.report(2, 0), 12);
        check.due("status of the last report", hub.report(2, 1), 5);
    }

    private static void tickAndPower(Check check) {
        PaymentHub hub = new PaymentHub(1000, 0);
        Check.say(hub, Check.payment("a", Check.transfer("x", 'A', 'B', "1"), Check.transfer("y", 'B', 'C', "2"),
                Check.transfer("z", 'C', 'D', "3")));
        hub.work();
        hub.work();
        hub.work();
        int from = hub.journal();
        hub.fail(1, 3);
        check.due("the clock, also when the power fails", hub.tick(40), 40);
        check.due("one record and a part", Check.bytes(hub, from), "88 1 0 89 88 1 1");
        check.due("down", hub.work(), -9);
        check.due("the clock goes on while down", hub.tick(5), 45);
        check.due("or stays", hub.tick(-5), 45);
        check.due("no records while down", hub.journal(), from + 7);
        hub.recover();
        check.due("the first was done", hub.transaction(0, 0), 5);
        check.due("the second was not", hub.transaction(1, 0), 3);
        check.due("the third was not", hub.transaction(2, 0), 3);
        check.due("a Q still comes in time", Check.say(hub, Check.answer("b", "y", 'A')), 0);
        check.due("a wrong tick lets expire too", hub.tick(1001), 45);
        check.due("the third", hub.transaction(2, 0), 5);
        check.due("the second", hub.transaction(1, 0), 4);
    }

    private static void sending(Check check) {
        PaymentHub hub = new PaymentHub(1000, 0);
        Check.say(hub, Check.payment("a", Check.transfer("x", 'A', 'B', "1"), Check.transfer("y", 'B', 'C', "2")));
        check.due("no report", hub.send(), -1);
        hub.work();
        hub.work();
        Check.say(hub, Check.answer("b", "y", 'A'));
        int from = hub.journal();
        check.due("the first", hub.send(), 0);
        check.due("its record", Check.bytes(hub, from), "83 1 0 84");
        check.due("marked", hub.report(0, 2), 1);
        check.due("one copy", hub.copies(0), 1);
        check.due("no other", hub.send(), -1);
        check.due("no record for that", hub.journal(), from + 4);
        Check.say(hub, Check.back("c", "y", "1"));
        hub.tick(30);
        hub.fail(0, 2);
        check.due("the power fails", hub.send(), -9);
        check.due("a copy went out", hub.copies(1), 1);
        check.due("while down", hub.send(), -9);
        check.due("no copy for that", hub.copies(1), 1);
        hub.recover();
        check.due("not marked", hub.report(1, 2), 0);
        check.due("the copy stays", hub.copies(1), 1);
        check.due("once more", hub.send(), 1);
        check.due("two copies", hub.copies(1), 2);
        check.due("the next", hub.send(), 2);
        check.due("one copy", hub.copies(2), 1);
        check.due("none left", hub.send(), -1);
    }
}
