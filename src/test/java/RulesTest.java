/** Promise 3: rules 3 to 13, in their order, and what becomes of the text. */
final class RulesTest {
    static void run(Check check) {
        check.group("promise 3");
        textIsGone(check);
        messageNames(check);
        payments(check);
        firstOfPayment(check);
        numberOfTransactions(check);
        followers(check);
        returns(check);
        available(check);
        longJournal(check);
        down(check);
    }

    private static PaymentHub funded() {
        PaymentHub hub = new PaymentHub(100000, 0);
        Check.say(hub, Check.payment("a", Check.transfer("x", 'A', 'B', "10"), Check.transfer("y", 'A', 'C', "20")));
        return hub;
    }

    private static void textIsGone(Check check) {
        PaymentHub hub = new PaymentHub(0, 0);
        check.due("bad text", Check.say(hub, "<a"), 1);
        check.due("it is gone", hub.put('x', 1), 1);
        hub.submit();
        check.due("not valid", Check.say(hub, "<a/>"), 2);
        check.due("it is gone", hub.put('x', 1), 1);
        hub.submit();
        check.due("accepted", Check.say(hub, Check.payment("a", Check.transfer("x", 'A', 'B', "1"))), 0);
        check.due("it is gone", hub.put('x', 1), 1);
        int journal = hub.journal();
        hub.submit();
        check.due("twice the same", Check.say(hub, Check.payment("a", Check.transfer("x", 'A', 'B', "1"))), 3);
        check.due("it is gone", hub.submit(), 1);
        check.due("a refused one leaves no record", hub.journal(), journal);
        check.due("and no transaction", hub.transaction(1, 0), -1);
    }

    private static void messageNames(Check check) {
        PaymentHub hub = funded();
        check.due("same I in a Q", Check.say(hub, Check.answer("a", "zz", 'A')), 3);
        check.due("same I in an R", Check.say(hub, Check.back("a", "zz", "1")), 3);
        check.due("same I as its reference", Check.say(hub, Check.back("&#97;", "zz", "1")), 3);
        check.due("same I of a bad P", Check.say(hub, Check.payment("a", Check.transfer("x", 'A', 'A', "1"))), 3);
        check.due("a longer I", Check.say(hub, Check.answer("aa", "zz", 'A')), 10);
        check.due("I of a refused one", Check.say(hub, Check.answer("aa", "zz", 'A')), 10);
        check.due("I as an E", Check.say(hub, Check.answer("x", "zz", 'A')), 10);
        hub.work();
        check.due("Q", Check.say(hub, Check.answer("q", "x", 'A')), 0);
        check.due("I of a Q", Check.say(hub, Check.answer("q", "y", 'A')), 3);
        check.due("R", Check.say(hub, Check.back("r", "x", "1")), 0);
        check.due("I of an R", Check.say(hub, Check.back("r", "x", "1")), 3);
        check.due("0 and 00 differ", Check.say(hub, Check.payment("0", Check.transfer("0", 'A', 'B', "1"))), 0);
        check.due("0 and 00 differ", Check.say(hub, Check.payment("00", Check.transfer("00", 'A', 'B', "1"))), 0);
    }

    private static void payments(Check check) {
        PaymentHub hub = funded();
        String good = Check.payment("b", Check.transfer("u", 'A', 'B', "1"), Check.transfer("v", 'C', 'D', "2.50"));
        check.due("N too great", Check.say(hub, good.replace("<N>2<", "<N>3<")), 4);
        check.due("N too small", Check.say(hub, good.replace("<N>2<", "<N>1<")), 4);
        check.due("N is 22", Check.say(hub, good.replace("<N>2<", "<N>22<")), 4);
        check.due("S too great", Check.say(hub, good.replace("<S>3.50<", "<S>3.51<")), 5);
        check.due("S too small", Check.say(hub, good.replace("<S>3.50<", "<S>3.49<")), 5);
        check.due("S of the first alone", Check.say(hub, good.replace("<S>3.50<", "<S>1<")), 5);
        check.due("sum beyond all S", Check.say(hub, "<P><I>b</I><N>2</N><S>999999.98</S>"
                + Check.transfer("u", 'A', 'B', "999999.99") + Check.transfer("v", 'A', 'B', "999999.99") + "</P>"), 5);
        for (char letter = 'A'; letter <= 'D'; letter++) {
            for (int digits = 0; digits < 100; digits++) {
                String written = letter + (digits < 10 ? "0" : "") + digits;
                int want = Check.full(letter).equals(written) ? 0 : 6;
                char other = letter == 'A' ? 'B' : 'A';
                String text = Check.payment("a", Check.transfer("x", letter, other, "1"));
                String back = Check.payment("a", Check.transfer("x", other, letter, "1"));
                check.due("D " + written, Check.say(new PaymentHub(0, 0), text.replace(Check.full(letter), written)), want);
                check.due("C " + written, Check.say(new PaymentHub(0, 0), back.replace(Check.full(letter), written)), want);
            }
            check.due("D and C " + letter, Check.say(hub, Check.payment("b", Check.transfer("u", letter, letter, "1"))), 7);
            check.due("in the second", Check.say(hub, Check.payment("b", Check.transfer("u", 'A', 'B', "1"),
                    Check.transfer("v", letter, letter, "1"))), 7);
        }
        check.due("bad C in the second", Check.say(hub, good.replace("D59", "D58")), 6);
        check.due("E of a transaction", Check.say(hub, Check.payment("b", Check.transfer("x", 'A', 'B', "1"))), 8);
        check.due("in the second", Check.say(hub, Check.payment("b", Check.transfer("u", 'A', 'B', "1"),
                Check.transfer("y", 'A', 'B', "1"))), 8);
        check.due("E twice", Check.say(hub, Check.payment("b", Check.transfer("u", 'A', 'B', "1"),
                Check.transfer("u", 'A', 'B', "1"))), 8);
        check.due("E twice, first and third", Check.say(hub, Check.payment("b", Check.transfer("u", 'A', 'B', "1"),
                Check.transfer("v", 'A', 'B', "1"), Check.transfer("u", 'A', 'C', "1"))), 8);
        check.due("E twice, second and third", Check.say(hub, Check.payment("b", Check.transfer("u", 'A', 'B', "1"),
                Check.transfer("v", 'A', 'B', "1"), Check.transfer("v", 'A', 'C', "1"))), 8);
        check.due("the good one", Check.say(hub, good), 0);
    }

    private static void firstOfPayment(Check check) {
        PaymentHub hub = funded();
        String all = "<P><I>I</I><N>N</N><S>S</S><T><E>x</E><D>D</D><C>A68</C><A>1</A></T></P>";
        String[][] steps = {{"<I>I", "<I>a"}, {"<N>N", "<N>3"}, {"<S>S", "<S>3"}, {"<D>D", "<D>A67"}};
        check.due("bad values", Check.say(hub, all), 2);
        for (String[] step : steps) {
            all = all.replace(step[0], step[1]);
        }
        check.due("old I", Check.say(hub, all), 3);
        all = all.replace("<I>a", "<I>n");
        check.due("wrong N", Check.say(hub, all), 4);
        all = all.replace("<N>3", "<N>1");
        check.due("wrong S", Check.say(hub, all), 5);
        all = all.replace("<S>3", "<S>1");
        check.due("wrong digits", Check.say(hub, all), 6);
        all = all.replace("A67", "A68");
        check.due("same account", Check.say(hub, all), 7);
        all = all.replace("<D>A68", "<D>B65");
        check.due("old E", Check.say(hub, all), 8);
        all = all.replace("<E>x", "<E>n");
        check.due("good at last", Check.say(hub, all), 0);
    }

    private static void numberOfTransactions(Check check) {
        PaymentHub hub = Check.filled(new PaymentHub(1000000, 0), 18, "1");
        check.due("18 are there", hub.transaction(17, 0), 1);
        check.due("21 are too many", Check.say(hub, Check.row(18, 3, "1")), 9);
        check.due("21 with an old E", Check.say(hub, Check.row(18, 3, "1").replace("t20", "t2")), 8);
        check.due("20 are not", Check.say(hub, Check.payment("b", Check.transfer("u", 'A', 'B', "1"),
                Check.transfer("v", 'A', 'B', "1"))), 0);
        check.due("the last one", hub.transaction(19, 0), 1);
        check.due("no more", Check.say(hub, Check.payment("c", Check.transfer("w", 'A', 'B', "1"))), 9);
        check.due("none there", hub.transaction(20, 0), -1);
        for (int t = 0; t < 20; t++) {
            check.due("work", hub.work(), t);
        }
        check.due("ended ones count too", hub.tick(30), 30);
        check.due("no more", Check.say(hub, Check.payment("c", Check.transfer("w", 'A', 'B', "1"))), 9);
    }

    private static void followers(Check check) {
        PaymentHub hub = funded();
        check.due("no such E", Check.say(hub, Check.answer("b", "z", 'A')), 10);
        check.due("Q of a received one", Check.say(hub, Check.answer("b", "x", 'A')), 11);
        check.due("R of a received one", Check.say(hub, Check.back("b", "x", "99")), 11);
        hub.work();
        check.due("R of a held one", Check.say(hub, Check.back("b", "x", "99")), 11);
        check.due("Q of a held one", Check.say(hub, Check.answer("b", "x", 'A')), 0);
        check.due("status", hub.transaction(0, 0), 4);
        check.due("the other's", hub.transaction(1, 0), 1);
        check.due("Q of a settled one", Check.say(hub, Check.answer("c", "x", 'R')), 11);
        hub.work();
        check.due("Q with R", Check.say(hub, Check.answer("c", "y", 'R')), 0);
        check.due("status", hub.transaction(1, 0), 5);
        check.due("Q of a rejected one", Check.say(hub, Check.answer("d", "y", 'A')), 11);
        check.due("R of a rejected one", Check.say(hub, Check.back("d", "y", "1")), 11);
        check.due("R of a settled one", Check.say(hub, Check.back("d", "x", "1")), 0);
        check.due("R of a returned one", Check.say(hub, Check.back("e", "x", "1")), 11);
        check.due("Q of a returned one", Check.say(hub, Check.answer("e", "x", 'A')), 11);
        PaymentHub poor = new PaymentHub(0, 0);
        Check.say(poor, Check.payment("a", Check.transfer("x", 'A', 'B', "10")));
        check.due("it waits", poor.work(), 100);
        check.due("Q of a waiting one", Check.say(poor, Check.answer("b", "x", 'A')), 11);
        check.due("R of a waiting one", Check.say(poor, Check.back("b", "x", "1")), 11);
    }

    private static void returns(Check check) {
        PaymentHub hub = funded();
        hub.work();
        Check.say(hub, Check.answer("b", "x", 'A'));
        check.due("too much", Check.say(hub, Check.back("c", "x", "10.01")), 12);
        check.due("far too much", Check.say(hub, Check.back("c", "x", "999999.99")), 12);
        check.due("all of it", Check.say(hub, Check.back("c", "x", "10.00")), 0);
        check.due("balance of B", hub.account(1, 0), 100000);
        check.due("balance of A", hub.account(0, 0), 100000);
    }

    private static void available(Check check) {
        for (int limit = 0; limit <= 100; limit += 100) {
            PaymentHub hub = new PaymentHub(1000, limit);
            Check.say(hub, Check.payment("a", Check.transfer("x", 'A', 'B', "10"), Check.transfer("y", 'B', 'C', "13")));
            hub.work();
            Check.say(hub, Check.answer("b", "x", 'A'));
            check.due("reserved on B", hub.work(), 1);
            String more = limit == 0 ? "7.01" : "8.01";
            String just = limit == 0 ? "7" : "8";
            check.due("amount is looked at first", Check.say(hub, Check.back("c", "x", "10.01")), 12);
            check.due("more than available", Check.say(hub, Check.back("c", "x", more)), 13);
            check.due("just what is available", Check.say(hub, Check.back("c", "x", just)), 0);
            check.due("nothing left on B", hub.account(1, 0) - hub.account(1, 1) + limit, 0);
        }
    }

    /**
     * The bound of 4000 bytes lies beyond what 512 calls can write, so here are more than the document speaks of.
     * RuleEdgeTest looks at the bound itself.
     */
    private static void longJournal(Check check) {
        fill(check, 0, 3);
        fill(check, 9, 4);
    }

    /** The reports that are sent move the place in the journal at which the bound is passed. */
    private static void fill(Check check, int sends, int status) {
        PaymentHub hub = new PaymentHub(1000000, 1000000);
        for (int i = 10; i < 29; i++) {
            check.due("P", Check.say(hub, Check.payment("pp" + i, Check.transfer("tt" + i, 'A', 'B', "12345.67"))), 0);
        }
        // one at a time can be paid: all the others wait again and again, which fills the journal
        int held = 0;
        int before = 0;
        for (int step = 0; step < 1000 && hub.journal() < 4000; step++) {
            if (hub.journal() > 3500 && sends > 0 && hub.copies(sends - 1) == 0) {
                hub.send();
            }
            before = hub.journal();
            int t = hub.work();
            if (t >= 0 && t < 100) {
                held = t + 10;
            } else if (t < 0 && hub.transaction(held - 10, 0) == 3) {
                check.due("Q at " + before, Check.say(hub, Check.answer("qq" + held, "tt" + held, 'A')), 0);
            } else if (t < 0) {
                check.due("R at " + before, Check.say(hub, Check.back("rr" + held, "tt" + held, "12345.67")), 0);
            }
        }
        check.due("the journal has 4000 bytes", hub.journal() >= 4000, true);
        check.due("the last record went beyond", before < 4000, true);
        int next = hub.queue(0);
        check.due("work goes on", hub.work() == next, true);
        held = next < 0 ? held : next + 10;
        check.due("held or settled", hub.transaction(held - 10, 0), status);
        check.due("Q", Check.say(hub, Check.answer("zz", "tt" + held, 'A')), 9);
        check.due("R", Check.say(hub, Check.back("zz", "tt" + held, "1")), 9);
        check.due("Q of none", Check.say(hub, Check.answer("zz", "none", 'A')), 9);
        check.due("R of none", Check.say(hub, Check.back("zz", "none", "1")), 9);
        check.due("P", Check.say(hub, Check.payment("zz", Check.transfer("zz", 'A', 'B', "1"))), 9);
        check.due("P with an old E", Check.say(hub, Check.payment("zz", Check.transfer("tt10", 'A', 'B', "1"))), 8);
        check.due("old I", Check.say(hub, Check.answer("pp10", "none", 'A')), 3);
        int journal = hub.journal();
        hub.tick(30);
        check.due("expiries go on", hub.journal(), journal + (status == 3 ? 4 : 0));
        check.due("and reports go out", hub.send(), sends);
    }

    private static void down(Check check) {
        PaymentHub hub = funded();
        hub.fail(0, 0);
        check.due("a bad text does not meet the power", Check.say(hub, "<a"), 1);
        check.due("nor a refused one", Check.say(hub, Check.answer("b", "x", 'A')), 11);
        check.due("an accepted one does", Check.say(hub, Check.payment("b", Check.transfer("z", 'A', 'B', "1"))), -9);
        check.due("submit() while down", hub.submit(), -9);
        check.due("recover()", hub.recover(), true);
        check.due("the text is gone", hub.submit(), 1);
        check.due("its I and E are free", Check.say(hub, Check.payment("b", Check.transfer("z", 'A', 'B', "1"))), 0);
        check.due("its number", hub.transaction(2, 0), 1);
    }
}
