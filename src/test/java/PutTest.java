/** Promise 2. */
final class PutTest {
    static void run(Check check) {
        check.group("promise 2");
        numbersAndCharacters(check);
        order(check);
        room(check);
        down(check);
    }

    private static void numbersAndCharacters(Check check) {
        PaymentHub hub = new PaymentHub(0, 0);
        int[] bad = {0, -1, 9, Integer.MIN_VALUE, Integer.MAX_VALUE};
        for (int n : bad) {
            check.due("put(8 letters, " + n + ")", hub.put(Check.packed("abcdefgh"), n), -1);
        }
        for (int c = 0; c < 256; c++) {
            boolean good = c >= 32 && c <= 126;
            PaymentHub fresh = new PaymentHub(0, 0);
            check.due("put of character " + c, fresh.put(c, 1), good ? 1 : -1);
            check.due("put of character " + c + " at last", fresh.put((long) c << 56 | Check.packed("abcdefg"), 8),
                    good ? 9 : -1);
            check.due("put behind it", fresh.put('x', 1), good ? 10 : 1);
        }
        check.due("higher bytes do not count", hub.put(0xFFFFFFFFFFFF0041L, 1), 1);
        check.due("but the lower ones do", hub.put(0xFFFFFFFFFFFF0041L, 2), -1);
        check.due("nothing changed", hub.put(Check.packed("ab"), 2), 3);
        check.due("all eight", hub.put(Check.packed("~ ~ ~ ~ "), 8), 11);
    }

    private static void order(Check check) {
        PaymentHub hub = new PaymentHub(0, 0);
        for (String part : new String[] {"<", "Q", "><I>ab", "</I><O>", "c", "</O><V", ">A</V></", "Q>"}) {
            hub.put(Check.packed(part), part.length());
        }
        check.due("the text is as it was put", hub.submit(), 10);
    }

    private static void room(Check check) {
        PaymentHub hub = new PaymentHub(0, 0);
        for (int i = 1; i <= 37; i++) {
            check.due("length", hub.put(Check.packed("        "), 8), 8 * i);
        }
        check.due("5 too many for 300", hub.put(Check.packed("     "), 5), -1);
        check.due("8 too many for 300", hub.put(Check.packed("        "), 8), -1);
        check.due("up to 300", hub.put(Check.packed("    "), 4), 300);
        check.due("no more", hub.put(Check.packed(" "), 1), -1);
        check.due("blanks alone", hub.submit(), 1);
        check.due("empty again", hub.put(Check.packed("a"), 1), 1);
    }

    private static void down(Check check) {
        PaymentHub hub = new PaymentHub(0, 0);
        hub.fail(0, 0);
        Check.say(hub, Check.payment("a", Check.transfer("x", 'A', 'B', "1")));
        check.due("put while down", hub.put('a', 1), -9);
        check.due("put of a wrong number while down", hub.put('a', 0), -9);
        check.due("put of a wrong character while down", hub.put(0, 1), -9);
        hub.recover();
        check.due("nothing was put", hub.put('a', 1), 1);
    }
}
