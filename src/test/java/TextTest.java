/** The terms TEXT, VALID and CANONICAL FORM: rules 1 and 2 of promise 3. */
final class TextTest {
    private static final String GOOD = "<Q><I>b</I><O>x</O><V>A</V></Q>";

    static void run(Check check) {
        check.group("well-formed");
        wellFormed(check);
        notWellFormed(check);
        manyElements(check);
        cutOff(check);
        check.group("valid");
        valid(check);
        notValid(check);
        values(check);
        check.group("canonical form");
        canonical(check);
    }

    private static void answers(Check check, String text, int want) {
        check.due("submit() of " + text, Check.say(new PaymentHub(0, 0), text), want);
    }

    private static void wellFormed(Check check) {
        String[] texts = {
            "<a/>", "<Z/>", "<z  />", "<a></a>", "<a  ></a   >", "  <a/>  ", "<!--x--><a/><!--y-->", " <!----> <a/> <!----> ",
            "<a>&#33;</a>", "<a>&#033;</a>", "<a>&#126;</a>", "<a>&#99;</a>", "<a>&#100;</a>", "<a>></a>", "<a>;#!-->'\"/</a>",
            "<a><!--<&>--></a>", "<a><!-- - --></a>", "<a><!--->--></a>", "<a><!-----></a>".replace("-----", "----"),
            "<a><b/><b/><b><c/></b></a>", "<a><b><c><d/></c></b></a>", "<a><b><c><d>x</d></c></b><b><c><d/></c></b></a>",
            "<a><a><a></a></a></a>", "<a>x<b>y</b>z</a>", "<P/>", "<T/>", "<a>&#60;&#38;</a>",
        };
        for (String text : texts) {
            answers(check, text, 2);
        }
    }

    private static void notWellFormed(Check check) {
        String[] texts = {
            "", " ", "a", "<", "<a", "<a>", "<a/", "</a>", "<a></b>", "<a></A>", "<a><b></a></b>", "<a></a", "<a></",
            "< a/>", "<a/ >", "<a / >", "</ a>", "<a></ a>", "<a>< /a>", "<ab/>", "<a b/>", "<1/>", "<a></a>b", "b<a/>", "<a/><a/>",
            "<a/>&#65;", "&#65;<a/>", "<a/>&", "<>", "<></>", "<[/>", "<@/>", "<`/>", "<{/>", "<a><</a>", "<a>&</a>", "<a>&#</a>",
            "<a>&#65</a>", "<a>&65;</a>", "<a>&#6;</a>", "<a>&#;</a>", "<a>&#0065;</a>", "<a>&#32;</a>", "<a>&#032;</a>",
            "<a>&#127;</a>", "<a>&#10;</a>", "<a>&#999;</a>", "<a>& #65;</a>", "<a>&# 65;</a>", "<a>&#6 5;</a>", "<a>&#65 ;</a>",
            "<a>&#x41;</a>", "<a>&amp;</a>", "<!-- -->", "<!---->", "<a><!-- -- --></a>", "<a><!-- ---></a>", "<!---><a/>",
            "<!----->".concat("<a/>"), "<a><!--</a>", "<a><!-->--</a>", "<!-- <a/>", "<! -- --><a/>", "<!- - --><a/>", "<!-x--><a/>",
            "<a/><!--", "<a/><!--x", "<a/><!--x-", "<a/><!--x--", "<a/><!", "<a/><!-", "<a <!----> />", "<a><b><c><d><e/></d></c></b></a>",
            "<a><b><c><d><e></e></d></c></b></a>", "<a></a >x", "<a>&#65;", "<a>x", "<a/>/", "<a//>", "<a></a/>", "<?a?><a/>",
        };
        for (String text : texts) {
            answers(check, text, 1);
        }
    }

    private static void manyElements(Check check) {
        String most = "<a>" + "<b/>".repeat(73) + "</a>";
        answers(check, most, 2);
        answers(check, most + " ", 2);
        answers(check, most.replace("</a>", "</b>"), 1);
        answers(check, "<a/>" + " ".repeat(296), 2);
        answers(check, " ".repeat(296) + "<a/>", 2);
        answers(check, "<a>" + "x".repeat(293) + "</a>", 2);
        answers(check, "<!--" + "x".repeat(289) + "--><a/>", 2);
        String[] tails = {"<", "<a", "<a ", "<a/", "</", "</a", "</a ", "<!", "<!-", "<!--", "<!--x", "<!---", "<!----", "&", "&#", "&#6", "&#65", "&#065"};
        for (String tail : tails) {
            answers(check, "<a>" + "x".repeat(297 - tail.length()) + tail, 1);
            answers(check, " ".repeat(300 - tail.length()) + tail, 1);
        }
    }

    /** What an earlier text had at a place is not there any more. */
    private static void cutOff(Check check) {
        String[] texts = {"<Q><I>b</I ><O>&#120;</O><V>A</V></Q >", "<a><b/><!-- - --></a>", "<a />"};
        for (String text : texts) {
            PaymentHub hub = new PaymentHub(0, 0);
            for (int length = 0; length < text.length(); length++) {
                Check.say(hub, text);
                check.due("the first " + length + " of " + text, Check.say(hub, text.substring(0, length)), 1);
            }
            Check.say(hub, text + "<!-- x -->");
            check.due("a comment cut off", Check.say(hub, text + "<!-- x --"), 1);
            Check.say(hub, text + "<!-- x -->");
            check.due("a comment cut off", Check.say(hub, text + "<!-- x -"), 1);
        }
    }

    private static void valid(Check check) {
        String[] texts = {
            GOOD, " <Q> <I>b</I> <O>x</O> <V>A</V> </Q> ", "<Q ><I >b</I ><O>x</O  ><V>A</V></Q >",
            "<!-- a --><Q><!-- a --><I>b<!-- a --></I><O><!-- a -->x</O><V>A</V><!-- a --></Q><!-- a -->",
            "<Q><I>&#98;</I><O>x</O><V>&#65;</V></Q>", "<Q><I>  b </I><O> x </O><V> A  </V></Q>",
            "<Q><I>  <!-- --> b <!-- --> </I><O> x </O><V> A  </V></Q>", "<Q><I>a<!-- -->b</I><O>x</O><V>R</V></Q>",
            "<R><I>b</I><O>x</O><A>1</A></R>",
        };
        for (String text : texts) {
            answers(check, text, 10);
        }
        answers(check, Check.payment("a", Check.transfer("x", 'A', 'B', "1")), 0);
        answers(check, Check.payment("a", Check.transfer("x", 'A', 'B', "1"), Check.transfer("y", 'A', 'B', "1")), 0);
        answers(check, Check.payment("a", Check.transfer("x", 'A', 'B', "1"), Check.transfer("y", 'A', 'B', "1"),
                Check.transfer("z", 'A', 'B', "1")), 0);
    }

    private static void notValid(Check check) {
        String head = "<P><I>a</I><N>1</N><S>1</S>";
        String t = Check.transfer("x", 'A', 'B', "1");
        String[] texts = {
            "<Q/>", "<P/>", "<R/>", "<q><I>b</I><O>x</O><V>A</V></q>", "<X><I>b</I><O>x</O><V>A</V></X>",
            "<Q><I>b</I><O>x</O></Q>", "<Q><O>x</O><I>b</I><V>A</V></Q>", "<Q><I>b</I><O>x</O><V>A</V><V>A</V></Q>",
            "<Q><I>b</I><O>x</O><A>1</A></Q>", "<R><I>b</I><O>x</O><V>A</V></R>", "<Q><I>b</I><O>x</O><V>A</V>.</Q>",
            "<Q>.<I>b</I><O>x</O><V>A</V></Q>", "<Q><I>b</I>&#65;<O>x</O><V>A</V></Q>", "<Q><I>b<x/></I><O>x</O><V>A</V></Q>",
            "<Q><I><O>x</O></I><V>A</V></Q>", "<Q><I>b</I><O>x<V>A</V></O></Q>", "<Q><Q><I>b</I><O>x</O><V>A</V></Q></Q>",
            "<Q><i>b</i><O>x</O><V>A</V></Q>", "<I>b</I>", t,
            "<Q><I/><O>x</O><V>A</V></Q>", "<Q><I>b</I><O/><V>A</V></Q>", "<Q><I>b</I><O>x</O><V/></Q>",
            head + "</P>", head + t + t + t + t + "</P>", head + "<T/></P>", head + "<T></T></P>", "<P>" + t + "</P>",
            "<P><I>a</I><S>1</S><N>1</N>" + t + "</P>", "<P><I>a</I><N>1</N>" + t + "</P>", head + t + "x</P>",
            head + t.replace("<T>", "<T>x") + "</P>", head + t.replace("<T>", "<T>&#65;") + "</P>",
            head + t.replace("</T>", "<A>1</A></T>") + "</P>", head + t.replace("<A>1</A>", "") + "</P>",
            head + t.replace("<E>x</E><D>A68</D>", "<D>A68</D><E>x</E>") + "</P>", head + t + "<I>b</I></P>",
            head + "<E>x</E><D>A68</D><C>B65</C><A>1</A></P>", head + "<T/><E>x</E><D>A68</D><C>B65</C><A>1</A></P>",
            head + t.replace("<D>A68</D><C>B65</C>", "<C>B65</C><D>A68</D>") + "</P>",
            head + t.replace("<E>x</E>", "<E>x<D>A68</D></E>").replace("</E><D>A68</D>", "</E>") + "</P>",
        };
        for (String text : texts) {
            answers(check, text, 2);
        }
    }

    private static void values(Check check) {
        for (String name : new String[] {"a", "z", "0", "9", "az09", "zzzz", " a ", "0000"}) {
            answers(check, "<Q><I>" + name + "</I><O>x</O><V>A</V></Q>", 10);
            answers(check, "<Q><I>x</I><O>" + name + "</O><V>A</V></Q>", 10);
            answers(check, one("1", "1", name, "A68", "B65", "1"), 0);
        }
        for (String name : new String[] {"", " ", "abcde", "A", "a b", "a.", "`", "{", "/", ":", "&#65;", "a-b", "_"}) {
            answers(check, "<Q><I>" + name + "</I><O>x</O><V>A</V></Q>", 2);
            answers(check, "<Q><I>x</I><O>" + name + "</O><V>A</V></Q>", 2);
            answers(check, one("1", "1", name, "A68", "B65", "1"), 2);
        }
        for (String number : new String[] {"2", "10", "99", "00", "0", "02"}) {
            answers(check, one(number, "1", "x", "A68", "B65", "1"), 4);
        }
        answers(check, one("01", "1", "x", "A68", "B65", "1"), 0);
        for (String number : new String[] {"", "001", "100", "a", "-1", "1.", "1 1", "+1", "1/", "1:"}) {
            answers(check, one(number, "1", "x", "A68", "B65", "1"), 2);
        }
        for (String verdict : new String[] {"", "a", "r", "B", "AA", "AR", "A R", "Q", "1"}) {
            answers(check, "<Q><I>b</I><O>x</O><V>" + verdict + "</V></Q>", 2);
        }
        for (String place : new String[] {"", "A", "A6", "68", "A688", "E56", "a68", "@68", "A 8", "A6x", "AA8", " A6", "6A8", "A6/", "A:8"}) {
            answers(check, one("1", "1", "x", place, "B65", "1"), 2);
            answers(check, one("1", "1", "x", "B65", place, "1"), 2);
        }
        for (String amount : new String[] {"1", "01", "000001", "1.0", "1.00", "000001.00", " 1 ", "&#49;", "1&#46;0", "1<!---->.0"}) {
            answers(check, one("1", "1", "x", "A68", "B65", amount), 0);
            answers(check, one("1", amount, "x", "A68", "B65", "1"), 0);
            answers(check, "<R><I>b</I><O>x</O><A>" + amount + "</A></R>", 10);
        }
        for (String amount : new String[] {"", "0", "0.0", "0.00", "000000", "1.", ".1", ".", "1.000", "0000001", "1000000", "1,0", "-1",
            "1.1.1", "1 .0", "1. 0", "1.a", "a.1", "1..1", "1e1", "1.0 0", "000000.00", "..", ".11"}) {
            answers(check, one("1", "1", "x", "A68", "B65", amount), 2);
            answers(check, one("1", amount, "x", "A68", "B65", "1"), 2);
            answers(check, "<R><I>b</I><O>x</O><A>" + amount + "</A></R>", 2);
        }
        amounts(check);
    }

    private static String one(String number, String sum, String name, String debtor, String creditor, String amount) {
        return "<P><I>a</I><N>" + number + "</N><S>" + sum + "</S><T><E>" + name + "</E><D>" + debtor + "</D><C>" + creditor
                + "</C><A>" + amount + "</A></T></P>";
    }

    private static void amounts(Check check) {
        String[] texts = {"7.5", "7.05", "7.50", "0.01", "0.1", "999999.99", "000000.01", "123456", "100000.9", "10", "0010.10"};
        int[] hundredths = {750, 705, 750, 1, 10, 99999999, 1, 12345600, 10000090, 1000, 1010};
        String[] forms = {"7.50", "7.05", "7.50", "0.01", "0.10", "999999.99", "0.01", "123456.00", "100000.90", "10.00", "10.10"};
        for (int i = 0; i < texts.length; i++) {
            PaymentHub hub = new PaymentHub(0, 0);
            check.due("submit of " + texts[i], Check.say(hub, one("1", texts[i], "x", "A68", "B65", texts[i])), 0);
            check.due("amount of " + texts[i], hub.transaction(0, 1), hundredths[i]);
            check.due("form of " + texts[i], Check.data(hub, 0), one("1", forms[i], "x", "A68", "B65", forms[i]));
        }
    }

    private static void canonical(Check check) {
        PaymentHub hub = new PaymentHub(100000, 0);
        String loose = " <!--p--> <P > <I> &#97;b </I> <!----><N> 02</N><S>003.5</S><T> <E>x<!--e-->1</E><D>A&#54;8</D ><C> B65</C>"
                + "<A>2</A></T> <T><E>09z</E><D>D59</D><C>C62</C><A>01.50</A></T></P> ";
        String tight = "<P><I>ab</I><N>2</N><S>3.50</S><T><E>x1</E><D>A68</D><C>B65</C><A>2.00</A></T>"
                + "<T><E>09z</E><D>D59</D><C>C62</C><A>1.50</A></T></P>";
        check.due("submit", Check.say(hub, loose), 0);
        check.due("a P", Check.data(hub, 0), tight);
        check.due("its length", hub.journal(), tight.length() + 3);
        hub.work();
        hub.work();
        int from = hub.journal();
        check.due("submit", Check.say(hub, "<Q><I> 0 </I><O>&#120;1</O><V>&#65;</V ></Q> "), 0);
        check.due("a Q", Check.data(hub, from), "<Q><I>0</I><O>x1</O><V>A</V></Q>");
        from = hub.journal();
        check.due("submit", Check.say(hub, "<Q><I>abcd</I><O>09z</O><V> R</V></Q>"), 0);
        check.due("a Q with R", Check.data(hub, from), "<Q><I>abcd</I><O>09z</O><V>R</V></Q>");
        from = hub.journal();
        check.due("submit", Check.say(hub, "<!----><R><I>c</I><O>x1</O><A>&#49;.7</A></R>"), 0);
        check.due("an R", Check.data(hub, from), "<R><I>c</I><O>x1</O><A>1.70</A></R>");
    }
}
