import java.lang.reflect.Field;

/** The boundary cases of promises 1 to 8, and of the calls that an object is used for: a method for each sentence. */
final class CallEdgeTest {
    private static final int[] FAR = {Integer.MIN_VALUE, Integer.MIN_VALUE + 1, -1000000, 1000000, Integer.MAX_VALUE - 1, Integer.MAX_VALUE};

    private final Check check;

    private CallEdgeTest(Check check) {
        this.check = check;
    }

    static void run(Check check) throws ReflectiveOperationException {
        CallEdgeTest test = new CallEdgeTest(check);
        test.mostCalls();
        test.nearestNumbers();
        test.powerDoesNotFail();
        test.numberOfCharacters();
        test.codesOfCharacters();
        test.moreThanThreeHundred();
        test.textAfterSubmit();
        test.amountAndAvailable();
        test.emptyQueue();
        test.fiveThousandBytes();
        test.lengthOfTick();
        test.deadlineAndClock();
        test.clockWhileDown();
        test.leastReport();
        test.copyIsNotTakenBack();
        test.argumentsOfFail();
        test.recordsUntilFailure();
        test.replacesWhatWasSaid();
        test.nothingSaidAnyMore();
        test.recovering();
        test.downIsLookedAtFirst();
    }

    /** Down at the clock 10: 0 is settled and one copy of its report went out, 1 is held, 2 in the queue. */
    private static PaymentHub down() {
        PaymentHub hub = Check.filled(new PaymentHub(1000, 0), 1, "1");
        Check.say(hub, Check.payment("b", Check.transfer("u", 'B', 'A', "1"), Check.transfer("v", 'C', 'D', "1")));
        hub.work();
        hub.tick(10);
        hub.work();
        Check.say(hub, Check.answer("q", "t0", 'A'));
        Check.put(hub, "abc");
        hub.fail(0, 2);
        hub.send();
        return hub;
    }

    private void mostCalls() {
        check.group("an object is used for at most 512 calls");
        PaymentHub hub = new PaymentHub(1000, 0);
        for (int call = 1; call <= 512; call++) {
            check.due("call " + call, hub.tick(1000), 1000 * call);
        }
        PaymentHub full = new PaymentHub(1000, 0);
        for (int call = 1; call <= 499; call++) {
            full.tick(1000);
        }
        check.due("11 calls", Check.say(full, Check.row(0, 1, "1")), 0);
        check.due("the 511th", full.work(), 0);
        check.due("the 512th", full.transaction(0, 4), 499030);
    }

    private void nearestNumbers() {
        check.group("OPEN and LIMIT are 0 .. 1000000 (the nearest number for others)");
        int[] said = {Integer.MIN_VALUE, -1000001, -1, 0, 1, 2, 999999, 1000000, 1000001, Integer.MAX_VALUE};
        int[] nearest = {0, 0, 0, 0, 1, 2, 999999, 1000000, 1000000, 1000000};
        for (int o = 0; o < said.length; o++) {
            for (int l = 0; l < said.length; l++) {
                PaymentHub hub = new PaymentHub(said[o], said[l]);
                for (int a = 0; a < 4; a++) {
                    check.due("balance of " + a + " for OPEN " + said[o], hub.account(a, 0), nearest[o]);
                }
                int available = nearest[o] + nearest[l];
                if (available > 0) {
                    Check.say(hub, Check.row(0, 1, java.math.BigDecimal.valueOf(available, 2).toPlainString()));
                    check.due("just OPEN + LIMIT, " + available, hub.work(), 0);
                }
                hub = new PaymentHub(said[o], said[l]);
                Check.say(hub, Check.row(0, 1, java.math.BigDecimal.valueOf(available + 1, 2).toPlainString()));
                check.due("one more than OPEN + LIMIT, " + available, hub.work(), 100);
            }
        }
    }

    private void powerDoesNotFail() {
        check.group("an empty journal and text, the clock is 0; the power does not fail");
        PaymentHub hub = new PaymentHub(0, 0);
        check.due("journal()", hub.journal(), 0);
        check.due("octet(0)", hub.octet(0), -1);
        check.due("submit() of the empty text", hub.submit(), 1);
        check.due("tick(0)", hub.tick(0), 0);
        check.due("recover()", hub.recover(), false);
        PaymentHub busy = Check.filled(new PaymentHub(1000000, 0), 20, "1");
        Check.work(busy, 20);
        check.due("expiries", busy.tick(30), 30);
        for (int r = 0; r < 20; r++) {
            check.due("record " + (48 + r), busy.send(), r);
        }
    }

    private void numberOfCharacters() {
        check.group("NONE, and nothing changes, when n is not 1 .. 8");
        PaymentHub hub = new PaymentHub(0, 0);
        int length = 0;
        for (int n = -3; n <= 12; n++) {
            boolean good = n >= 1 && n <= 8;
            length += good ? n : 0;
            check.due("put(.., " + n + ")", hub.put(Check.packed("abcdefgh"), n), good ? length : -1);
        }
        for (int n : FAR) {
            check.due("put(.., " + n + ")", hub.put(Check.packed("abcdefgh"), n), -1);
        }
        check.due("nothing changed", hub.put('a', 1), length + 1);
    }

    private void codesOfCharacters() {
        check.group("one of them is not 32 .. 126");
        int[] codes = {0, 1, 10, 31, 32, 33, 125, 126, 127, 128, 160, 254, 255};
        for (int place = 0; place < 8; place++) {
            for (int code : codes) {
                long characters = Check.packed("abcdefgh") & ~(255L << 8 * place) | (long) code << 8 * place;
                boolean good = code >= 32 && code <= 126;
                PaymentHub hub = new PaymentHub(0, 0);
                for (int n = 1; n <= 8; n++) {
                    boolean taken = n <= place || good;
                    check.due("code " + code + " at place " + place + " of " + n, hub.put(characters, n) > 0, taken);
                }
                int length = good ? 36 : place * (place + 1) / 2;
                check.due("nothing changes", hub.put('a', 1), length + 1);
            }
        }
    }

    private void moreThanThreeHundred() {
        check.group("or there would be more than 300");
        for (int there = 290; there <= 300; there++) {
            for (int n = 1; n <= 8; n++) {
                PaymentHub hub = new PaymentHub(0, 0);
                Check.put(hub, " ".repeat(there));
                check.due(there + " and " + n, hub.put(Check.packed("abcdefgh"), n), there + n <= 300 ? there + n : -1);
                int left = there + n <= 300 ? there + n : there;
                check.due("nothing changes", hub.put('x', 1), left < 300 ? left + 1 : -1);
            }
        }
        PaymentHub hub = new PaymentHub(0, 0);
        String good = Check.payment("a", Check.transfer("x", 'A', 'B', "1"));
        Check.put(hub, good + " ".repeat(300 - good.length()));
        check.due("refused", hub.put('x', 1), -1);
        check.due("what was there is as it was", hub.submit(), 0);
    }

    private void textAfterSubmit() {
        check.group("it is read, and no text is there any more (also when it is refused)");
        String[] texts = {"", "<a", "<a/>", Check.row(0, 1, "1"), Check.row(0, 1, "1"), Check.answer("n", "none", 'A'), Check.answer("n", "t0", 'A')};
        int[] answers = {1, 1, 2, 0, 3, 10, 11};
        PaymentHub hub = new PaymentHub(0, 0);
        for (int i = 0; i < texts.length; i++) {
            check.due("submit() of " + texts[i], Check.say(hub, texts[i]), answers[i]);
            check.due("no text", hub.submit(), 1);
            check.due("no text", hub.put('x', 1), 1);
            check.due("that one", hub.submit(), 1);
        }
    }

    private void amountAndAvailable() {
        check.group("if its amount is not greater than the AVAILABLE of its debtor");
        String[] amounts = {"0.01", "9.99", "10", "10.01", "999989.99"};
        for (String amount : amounts) {
            boolean held = Double.parseDouble(amount) <= 10;
            int[][] parts = {{1000, 0}, {0, 1000}, {600, 400}};
            for (int[] part : parts) {
                PaymentHub hub = Check.filled(new PaymentHub(part[0], part[1]), 1, amount);
                check.due("OPEN " + part[0] + ", amount " + amount, hub.work(), held ? 0 : 100);
                check.due("status", hub.transaction(0, 0), held ? 3 : 2);
            }
            PaymentHub reserved = new PaymentHub(1500, 500);
            Check.say(reserved, Check.payment("a", Check.transfer("x", 'A', 'B', "10"), Check.transfer("y", 'A', 'B', amount)));
            reserved.work();
            check.due("10 reserved, amount " + amount, reserved.work(), held ? 1 : 101);
        }
        PaymentHub nothing = Check.filled(new PaymentHub(0, 0), 1, "0.01");
        check.due("nothing is available", nothing.work(), 100);
    }

    private void emptyQueue() {
        check.group("NONE when the queue is empty");
        PaymentHub hub = new PaymentHub(100, 0);
        check.due("at first", hub.work(), -1);
        Check.say(hub, Check.row(0, 2, "1"));
        check.due("held", hub.work(), 0);
        check.due("waits", hub.work(), 101);
        int bytes = hub.journal();
        check.due("empty again", hub.work(), -1);
        check.due("no record", hub.journal(), bytes);
        hub.tick(30);
        check.due("back in the queue", hub.work(), 1);
        check.due("empty again", hub.work(), -1);
    }

    /** Twenty transactions write less than 5000 bytes whatever is done, so the journal's length is set from outside. */
    private void fiveThousandBytes() throws ReflectiveOperationException {
        check.group("or the journal has 5000 bytes or more");
        for (int bytes = 4998; bytes <= 5002; bytes++) {
            for (int open = 0; open <= 100; open += 100) {
                PaymentHub hub = Check.filled(new PaymentHub(open, 0), 2, "1");
                setLength(hub, bytes);
                check.due("journal()", hub.journal(), bytes);
                int want = bytes >= 5000 ? -1 : open == 100 ? 0 : 100;
                check.due("work() at " + bytes, hub.work(), want);
                int more = bytes >= 5000 ? 0 : open == 100 ? 7 : 4;
                check.due("which may go beyond", hub.journal(), bytes + more);
                check.due("queue", Check.queue(hub), bytes >= 5000 ? "0 1" : "1");
            }
        }
    }

    private static void setLength(PaymentHub hub, int bytes) throws ReflectiveOperationException {
        Field records = PaymentHub.class.getDeclaredField("records");
        records.setAccessible(true);
        for (String name : new String[] {"length", "whole"}) {
            Field field = records.getType().getDeclaredField(name);
            field.setAccessible(true);
            field.setInt(records.get(hub), bytes);
        }
    }

    private void lengthOfTick() {
        check.group("the clock goes on by n when n is 0 .. 1000 (otherwise it stays)");
        PaymentHub hub = new PaymentHub(0, 0);
        int[] ticks = {0, 1, -1, 999, 1000, 1001, 0, -1000, 1002, 500};
        int clock = 0;
        for (int n : ticks) {
            clock += n >= 0 && n <= 1000 ? n : 0;
            check.due("tick(" + n + ")", hub.tick(n), clock);
        }
        for (int n : FAR) {
            check.due("tick(" + n + ")", hub.tick(n), clock);
        }
    }

    private void deadlineAndClock() {
        check.group("then in any case each HELD transaction whose deadline is not greater than the clock expires");
        for (int clock = 28; clock <= 32; clock++) {
            PaymentHub hub = Check.filled(new PaymentHub(1000, 0), 1, "1");
            hub.work();
            int from = hub.journal();
            check.due("tick", hub.tick(clock), clock);
            check.due("status at " + clock, hub.transaction(0, 0), clock >= 30 ? 5 : 3);
            check.due("records at " + clock, hub.journal(), from + (clock >= 30 ? 4 : 0));
            check.due("once", hub.tick(0), clock);
            check.due("records at " + clock, hub.journal(), from + (clock >= 30 ? 4 : 0));
        }
        for (int wrong : new int[] {-1, 1001, Integer.MIN_VALUE, Integer.MAX_VALUE, 0}) {
            PaymentHub hub = Check.filled(new PaymentHub(1000, 0), 1, "1");
            hub.work();
            hub.fail(0, 0);
            hub.tick(30);
            hub.recover();
            check.due("still held", hub.transaction(0, 0), 3);
            check.due("tick(" + wrong + ")", hub.tick(wrong), 30);
            check.due("expired", hub.transaction(0, 0), 5);
        }
        PaymentHub hub = Check.filled(new PaymentHub(1000000, 0), 20, "1");
        Check.work(hub, 20);
        int from = hub.journal();
        hub.tick(30);
        check.due("all twenty", hub.journal(), from + 80);
        for (int t = 0; t < 20; t++) {
            check.due("by ascending numbers", hub.octet(from + 4 * t + 2), t);
        }
    }

    private void clockWhileDown() {
        check.group("answers the clock (also when the hub is down, or is from now on)");
        PaymentHub hub = down();
        int bytes = hub.journal();
        check.due("tick(20)", hub.tick(20), 30);
        check.due("tick(1000)", hub.tick(1000), 1030);
        check.due("tick(1001)", hub.tick(1001), 1030);
        check.due("tick(-1)", hub.tick(-1), 1030);
        check.due("no record", hub.journal(), bytes);
        hub.recover();
        check.due("nothing expired", hub.transaction(1, 0), 3);
        hub.fail(0, 1);
        check.due("down from now on", hub.tick(1), 1031);
        check.due("down", hub.work(), -9);
        hub.recover();
        check.due("tick(0)", hub.tick(0), 1031);
        check.due("expired", hub.transaction(1, 0), 5);
    }

    private void leastReport() {
        check.group("the least report that is not MARKED goes out; NONE when there is none");
        PaymentHub hub = Check.filled(new PaymentHub(1000, 0), 3, "1");
        check.due("none yet", hub.send(), -1);
        Check.work(hub, 3);
        Check.say(hub, Check.answer("q", "t2", 'A'));
        check.due("the first", hub.send(), 0);
        int bytes = hub.journal();
        check.due("none more", hub.send(), -1);
        check.due("no record", hub.journal(), bytes);
        hub.tick(30);
        check.due("the second", hub.send(), 1);
        check.due("the third", hub.send(), 2);
        check.due("none more", hub.send(), -1);
        PaymentHub full = Check.filled(new PaymentHub(1000000, 0), 20, "1");
        Check.work(full, 20);
        for (int t = 0; t < 20; t++) {
            Check.say(full, Check.answer("q" + t, "t" + t, 'A'));
            if (t >= 12) {
                Check.say(full, Check.back("r" + t, "t" + t, "1"));
            }
        }
        for (int r = 0; r < 28; r++) {
            check.due("send()", full.send(), r);
        }
        check.due("none more", full.send(), -1);
    }

    private void copyIsNotTakenBack() {
        check.group("one COPY more of it, which nothing takes back");
        PaymentHub hub = down();
        check.due("while down", hub.copies(0), 1);
        check.due("send()", hub.send(), -9);
        check.due("no more of it", hub.copies(0), 1);
        hub.recover();
        check.due("after recovery", hub.copies(0), 1);
        check.due("not marked", hub.report(0, 2), 0);
        for (int times = 2; times <= 4; times++) {
            hub.fail(0, times);
            check.due("the power fails", hub.send(), -9);
            hub.recover();
            check.due("copies", hub.copies(0), times);
        }
        check.due("at last", hub.send(), 0);
        check.due("copies", hub.copies(0), 5);
        check.due("marked", hub.report(0, 2), 1);
        check.due("none more", hub.send(), -1);
        check.due("copies", hub.copies(0), 5);
    }

    private void argumentsOfFail() {
        check.group("false, changing nothing, when n is not 0 .. 50 or bytes not 0 .. 300, or the hub is down");
        for (int n : new int[] {-2, -1, 0, 1, 49, 50, 51, 52}) {
            check.due("fail(" + n + ", 0)", new PaymentHub(0, 0).fail(n, 0), n >= 0 && n <= 50);
        }
        for (int bytes : new int[] {-2, -1, 0, 1, 299, 300, 301, 302}) {
            check.due("fail(0, " + bytes + ")", new PaymentHub(0, 0).fail(0, bytes), bytes >= 0 && bytes <= 300);
        }
        check.due("both at their greatest", new PaymentHub(0, 0).fail(50, 300), true);
        int[][] wrong = {{-1, 0}, {51, 0}, {0, -1}, {0, 301}, {-1, -1}, {51, 301}, {Integer.MIN_VALUE, 0}, {0, Integer.MIN_VALUE},
            {Integer.MAX_VALUE, 0}, {0, Integer.MAX_VALUE}};
        for (int[] said : wrong) {
            PaymentHub hub = new PaymentHub(1000, 0);
            check.due("fail(" + said[0] + ", " + said[1] + ")", hub.fail(said[0], said[1]), false);
            check.due("nothing was said", Check.say(hub, Check.row(0, 1, "1")), 0);
            hub.fail(0, 3);
            int from = hub.journal();
            check.due("fail(" + said[0] + ", " + said[1] + ")", hub.fail(said[0], said[1]), false);
            check.due("what was said before holds", hub.work(), -9);
            check.due("with its bytes", hub.journal(), from + 3);
            check.due("while down", hub.fail(0, 0), false);
            check.due("while down", hub.fail(50, 300), false);
            hub.recover();
            check.due("nothing was said", hub.work(), 0);
        }
    }

    private void recordsUntilFailure() {
        check.group("n records are written whole, and at the next one the power fails");
        for (int n : new int[] {0, 1, 2, 19, 20, 21, 39, 40, 41, 49, 50}) {
            PaymentHub hub = Check.filled(new PaymentHub(1000000, 0), 20, "1");
            hub.fail(n, 1);
            int whole = 0;
            for (int t = 0; t < 20 && whole < 51; t++) {
                whole += hub.work() == t ? 1 : 0;
            }
            int from = hub.journal();
            hub.tick(30);
            whole += (hub.journal() - from) / 4;
            for (int r = 0; r < 20; r++) {
                whole += hub.send() == r ? 1 : 0;
            }
            check.due("whole records", whole, n);
            check.due("down then", hub.recover(), true);
        }
    }

    private void replacesWhatWasSaid() {
        check.group("replaces what was said before");
        int[][] pairs = {{0, 1}, {1, 0}, {50, 0}, {2, 2}, {0, 0}, {3, 1}};
        for (int[] pair : pairs) {
            PaymentHub hub = Check.filled(new PaymentHub(1000, 0), 6, "1");
            hub.fail(pair[0], 6);
            hub.fail(pair[1], 2);
            int from = hub.journal();
            for (int i = 0; i < pair[1]; i++) {
                check.due("whole", hub.work(), i);
            }
            check.due("the power fails", hub.work(), -9);
            check.due("bytes", hub.journal(), from + 7 * pair[1] + 2);
        }
        PaymentHub hub = Check.filled(new PaymentHub(1000, 0), 6, "1");
        hub.fail(2, 0);
        check.due("one of the two", hub.work(), 0);
        hub.fail(2, 0);
        check.due("from now on", hub.work(), 1);
        check.due("two", hub.work(), 2);
        check.due("and the next", hub.work(), -9);
    }

    private void nothingSaidAnyMore() {
        check.group("after a failure nothing is said any more");
        PaymentHub hub = Check.filled(new PaymentHub(1000000, 0), 20, "1");
        hub.fail(0, 0);
        check.due("the power fails", hub.work(), -9);
        hub.recover();
        for (int t = 0; t < 20; t++) {
            check.due("no more", hub.work(), t);
        }
        hub.tick(30);
        for (int r = 0; r < 20; r++) {
            check.due("no more", hub.send(), r);
        }
    }

    private void recovering() {
        check.group("the hub is down no more, the text is empty; false when it wasn't down");
        PaymentHub hub = new PaymentHub(1000, 0);
        check.due("a new one", hub.recover(), false);
        Check.say(hub, Check.row(0, 1, "1"));
        Check.put(hub, "abc");
        hub.fail(1, 0);
        check.due("not down", hub.recover(), false);
        check.due("the text stays", hub.put('d', 1), 4);
        check.due("what was said stays", hub.work(), 0);
        check.due("what was said stays", hub.tick(30), 30);
        check.due("down", hub.work(), -9);
        check.due("it was", hub.recover(), true);
        check.due("no more", hub.recover(), false);
        check.due("the text is empty", hub.submit(), 1);
        check.due("the text is empty", hub.put('d', 1), 1);
        check.due("the clock stays", hub.tick(0), 30);
        hub.fail(0, 0);
        hub.send();
        check.due("again", hub.recover(), true);
        check.due("again no text", hub.put('e', 1), 1);
    }

    private void downIsLookedAtFirst() {
        check.group("DOWN (looked at first)");
        PaymentHub hub = down();
        check.due("put", hub.put('a', 1), -9);
        for (int n : new int[] {0, 9, -1, Integer.MIN_VALUE, Integer.MAX_VALUE}) {
            check.due("put(.., " + n + ")", hub.put('a', n), -9);
        }
        check.due("put of a wrong character", hub.put(31, 1), -9);
        check.due("submit()", hub.submit(), -9);
        check.due("work()", hub.work(), -9);
        check.due("send()", hub.send(), -9);
        PaymentHub empty = new PaymentHub(0, 0);
        Check.put(empty, " ".repeat(300));
        empty.submit();
        empty.fail(0, 0);
        Check.say(empty, Check.row(0, 1, "1"));
        check.due("submit() of no text", empty.submit(), -9);
        check.due("work() of an empty queue", empty.work(), -9);
        check.due("send() without a report", empty.send(), -9);
        PaymentHub full = Check.filled(new PaymentHub(1000, 0), 1, "1");
        Check.put(full, " ".repeat(300));
        full.fail(0, 0);
        full.work();
        check.due("put beyond 300", full.put('a', 1), -9);
    }
}
