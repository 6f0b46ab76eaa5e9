import java.util.function.IntUnaryOperator;
import java.util.function.UnaryOperator;

/** The boundary cases of TEXT, VALID and CANONICAL FORM: a method for each sentence that names one. */
final class TextEdgeTest {
    private static final int NOT_WELL_FORMED = 1;
    private static final int NOT_VALID = 2;
    /** What a Q or R that is valid gets from a hub without transactions. */
    private static final int VALID = 10;
    private static final String DIGITS = "0123456789";
    private static final String NAMES = "abcdefghijklmnopqrstuvwxyz0123456789";
    private static final String[] PAYMENT = {"<I>a</I>", "<N>1</N>", "<S>1</S>"};
    private static final String[] TRANSFER = {"<E>x</E>", "<D>A68</D>", "<C>B65</C>", "<A>1</A>"};
    private static final String[] ANSWER = {"<I>a</I>", "<O>x</O>", "<V>A</V>"};
    private static final String[] RETURN = {"<I>a</I>", "<O>x</O>", "<A>1</A>"};

    private final Check check;

    private TextEdgeTest(Check check) {
        this.check = check;
    }

    static void run(Check check) {
        TextEdgeTest test = new TextEdgeTest(check);
        test.oneElement();
        test.sameLetter();
        test.blanksBehindLetter();
        test.contentCharacters();
        test.comments();
        test.referenceDigits();
        test.referenceNumbers();
        test.referenceStandsForCharacter();
        test.depth();
        test.kinds();
        test.oneToThree();
        test.justTheseChildren();
        test.othersHaveNoChildren();
        test.onlyBlanksBetween();
        test.blanksAtBothEnds();
        test.names();
        test.numbers();
        test.accountCodes();
        test.verdicts();
        test.amountDigits();
        test.amountMoreThanZero();
        test.hundredths();
        test.formOfNumber();
        test.formOfAmounts();
        test.shortestAndLongestForm();
        test.fullText();
        test.mostElements();
        test.nothingOfEarlierTexts();
    }

    private void answers(String text, int want) {
        check.due("submit() of " + text, Check.say(new PaymentHub(0, 0), text), want);
    }

    private void answers(int want, String... texts) {
        for (String text : texts) {
            answers(text, want);
        }
    }

    private void inContent(int want, String... contents) {
        for (String content : contents) {
            answers("<a>" + content + "</a>", want);
        }
    }

    private static String wrap(String letter, String... parts) {
        return "<" + letter + ">" + String.join("", parts) + "</" + letter + ">";
    }

    private static String payment(String transfers) {
        return wrap("P", String.join("", PAYMENT), transfers);
    }

    private static String transfer() {
        return wrap("T", TRANSFER);
    }

    private static String answer(String name, String original, String verdict) {
        return wrap("Q", wrap("I", name), wrap("O", original), wrap("V", verdict));
    }

    private static String back(String amount) {
        return wrap("R", "<I>a</I><O>x</O>", wrap("A", amount));
    }

    private static String payment(String number, String sum, String name, String debtor, String creditor, String amount) {
        return wrap("P", "<I>a</I>", wrap("N", number), wrap("S", sum),
                wrap("T", wrap("E", name), wrap("D", debtor), wrap("C", creditor), wrap("A", amount)));
    }

    private void oneElement() {
        check.group("a document is an element, with blanks and comments ahead of it and behind it");
        answers(NOT_WELL_FORMED, "", " ", "<!---->", " <!-- a --> ");
        answers(NOT_VALID, "<a/>", " <a/>", "<a/> ", "<!----><a/>", "<a/><!---->", "  <!--x--> <!--y--> <a></a> <!--x--> <!--y-->  ");
        answers(NOT_WELL_FORMED, "<a/><a/>", "<a></a><b></b>", "<a/> <a/>", "<a/><!----><a/>");
        for (int c = 33; c <= 126; c++) {
            answers((char) c + "<a/>", NOT_WELL_FORMED);
            answers("<a/>" + (char) c, NOT_WELL_FORMED);
            answers("&#" + c + ";<a/>", NOT_WELL_FORMED);
            answers("<a/>&#" + c + ";", NOT_WELL_FORMED);
        }
    }

    private void sameLetter() {
        check.group("both L being the same letter (A .. Z, a .. z)");
        for (int c = 32; c <= 126; c++) {
            char l = (char) c;
            int want = l >= 'A' && l <= 'Z' || l >= 'a' && l <= 'z' ? NOT_VALID : NOT_WELL_FORMED;
            answers("<" + l + "/>", want);
            answers("<" + l + "></" + l + ">", want);
            answers("<m></" + l + ">", l == 'm' ? NOT_VALID : NOT_WELL_FORMED);
        }
        answers(NOT_WELL_FORMED, "<>", "</>", "<></>", "<aa></aa>", "<aa/>", "<a></aa>", "<a>", "</a>", "<a></a></a>", "<a><b></a></b>");
    }

    private void blanksBehindLetter() {
        check.group("blanks may stand behind an L, nowhere else within these signs");
        answers(NOT_VALID, "<a />", "<a    />", "<a ></a>", "<a></a >", "<a    ></a    >", "<a><b /></a >");
        answers(NOT_WELL_FORMED, "< a/>", "<a/ >", "<a / >", "< a></a>", "<a>< /a>", "<a></ a>", "<a>< / a>", "<a><b/ ></a>");
        answers(NOT_WELL_FORMED, "<a ", "<a  /", "<a></a ", "<a<!---->></a>", "<a<!---->/>", "<a></a<!---->>");
    }

    private void contentCharacters() {
        check.group("content is a row of elements, comments, references and characters other than \"<\" and \"&\"");
        inContent(NOT_VALID, "", "<b/>", "<!---->", "&#65;", "x", "x<b/>&#65;<!---->x<b></b>");
        for (int c = 32; c <= 126; c++) {
            inContent(c == '<' || c == '&' ? NOT_WELL_FORMED : NOT_VALID, String.valueOf((char) c));
        }
    }

    private void comments() {
        check.group("the first \"--\" behind \"<!--\" is that of \"-->\"");
        String[] good = {"<!---->", "<!--a-->", "<!---a-->", "<!-- - -->", "<!-->-->", "<!--->-->", "<!--<a>&<!-->", "<!--<!-->", "<!--a- -->"};
        String[] bad = {"<!-->", "<!--->", "<!----->", "<!---a--->", "<!-- --->", "<!-- -- -->", "<!---- >", "<!---- -->", "<!--a-- >",
            "<!--", "<!--a", "<!--a-", "<!--a--", "<!-", "<!", "<!-a-->", "<!-a--->", "<!a--->", "<! --->", "<! ---->", "<!- --->", "<!a>", "<!>"};
        for (String comment : good) {
            answers(comment + "<a/>", NOT_VALID);
            answers("<a/>" + comment, NOT_VALID);
            inContent(NOT_VALID, comment);
        }
        for (String comment : bad) {
            answers(comment + "<a/>", NOT_WELL_FORMED);
            answers("<a/>" + comment, NOT_WELL_FORMED);
            inContent(NOT_WELL_FORMED, comment);
        }
    }

    private void referenceDigits() {
        check.group("a reference is \"&#\", 2 or 3 digits, \";\"");
        inContent(NOT_VALID, "&#65;", "&#065;", "&#100;", "&#65;5", "&#65;;");
        inContent(NOT_WELL_FORMED, "&#;", "&#6;", "&#0065;", "&#0100;", "&#65", "&#065", "&#", "&", "&65;", "#&65;", "& #65;", "&# 65;",
                "&#6 5;", "&#65 ;", "&#-65;", "&#+65;", "&#6a;", "&#a5;", "&#x41;", "&#6/;", "&#:5;", "&#65:", "&#065<!---->;");
        for (int c = 32; c <= 126; c++) {
            inContent(c == '#' ? NOT_VALID : NOT_WELL_FORMED, "&" + (char) c + "65;");
            inContent(c == ';' ? NOT_VALID : NOT_WELL_FORMED, "&#065" + (char) c);
            inContent(c >= '0' && c <= '9' ? NOT_VALID : NOT_WELL_FORMED, "&#10" + (char) c + ";");
        }
        answers(NOT_WELL_FORMED, "<a>&", "<a>&#", "<a>&#6", "<a>&#65", "<a>&#065", "<a>&#65;");
    }

    private void referenceNumbers() {
        check.group("the number (033 is 33) being 33 .. 126");
        for (int number = 0; number <= 999; number++) {
            int want = number >= 33 && number <= 126 ? NOT_VALID : NOT_WELL_FORMED;
            inContent(want, String.format("&#%03d;", number));
            if (number <= 99) {
                inContent(want, String.format("&#%02d;", number));
            }
        }
    }

    private void referenceStandsForCharacter() {
        check.group("it stands for the character with that number");
        for (int c = 33; c <= 126; c++) {
            int want = NAMES.indexOf(c) >= 0 ? VALID : NOT_VALID;
            answers(answer("&#" + c + ";", "x", "A"), want);
            answers(answer("a", String.format("b&#%03d;", c), "A"), want);
        }
        answers(NOT_VALID, answer("&#60;I/>", "x", "A"), answer("&#38;#97;", "x", "A"));
    }

    private void depth() {
        check.group("an element lies in at most 3 others");
        answers(NOT_VALID, "<a/>", "<a><b/></a>", "<a><b><c/></b></a>", "<a><b><c><d/></c></b></a>", "<a><b><c><d></d></c></b></a>");
        answers(NOT_VALID, "<a><b><c><d/><d/></c><c><d/></c></b><b><c><d>x</d></c></b></a>", "<a><a><a><a/></a></a></a>");
        answers(NOT_WELL_FORMED, "<a><b><c><d><e/></d></c></b></a>", "<a><b><c><d><e></e></d></c></b></a>",
                "<a><b/><b><c><d/><d><e/></d></c></b></a>", "<a><a><a><a><a/></a></a></a></a>", "<a><b><c><d><e><f/></e></d></c></b></a>");
    }

    private void kinds() {
        check.group("valid is a document if its element is a P, Q or R");
        for (char l = 'A'; l <= 'z'; l++) {
            boolean letter = l <= 'Z' || l >= 'a';
            int other = letter ? NOT_VALID : NOT_WELL_FORMED;
            answers(wrap(String.valueOf(l), ANSWER), l == 'Q' ? VALID : other);
            answers(wrap(String.valueOf(l), RETURN), l == 'R' ? VALID : other);
            answers(payment(transfer()).replace("P>", l + ">"), l == 'P' ? 0 : other);
        }
    }

    private void oneToThree() {
        check.group("one to three T");
        String[] names = {"u", "v", "w", "x", "y", "z"};
        StringBuilder transfers = new StringBuilder();
        answers(payment(""), NOT_VALID);
        for (int n = 1; n <= names.length; n++) {
            transfers.append(transfer().replace("<E>x", "<E>" + names[n - 1]));
            String text = payment(transfers.toString()).replace("<N>1", "<N>" + n).replace("<S>1", "<S>" + n);
            answers(text, n <= 3 ? 0 : NOT_VALID);
        }
        answers(NOT_VALID, payment("<T/>"), payment("<T></T>"), payment(transfer() + "<T/>"), payment("<T/>" + transfer()));
    }

    private void justTheseChildren() {
        check.group("with just these children in this order");
        String[] whole = {PAYMENT[0], PAYMENT[1], PAYMENT[2], transfer()};
        answers(NOT_VALID, "<P/>", "<Q/>", "<R/>", "<P></P>", "<Q></Q>", "<R></R>");
        changedRows(whole, text -> wrap("P", text), 0);
        changedRows(TRANSFER, text -> payment(wrap("T", text)), 0);
        changedRows(ANSWER, text -> wrap("Q", text), VALID);
        changedRows(RETURN, text -> wrap("R", text), VALID);
    }

    /** Each child left out, twice, changed with another, and one more at each place. */
    private void changedRows(String[] row, UnaryOperator<String> around, int good) {
        answers(around.apply(String.join("", row)), good);
        for (int i = 0; i < row.length; i++) {
            String[] changed = row.clone();
            changed[i] = "";
            answers(around.apply(String.join("", changed)), NOT_VALID);
            if (!row[i].startsWith("<T>")) {
                changed[i] = row[i] + row[i];
                answers(around.apply(String.join("", changed)), NOT_VALID);
            }
            changed[i] = row[i] + "<x/>";
            answers(around.apply(String.join("", changed)), NOT_VALID);
            changed[i] = "<x/>" + row[i];
            answers(around.apply(String.join("", changed)), NOT_VALID);
            for (int j = 0; j < i; j++) {
                changed = row.clone();
                changed[i] = row[j];
                changed[j] = row[i];
                answers(around.apply(String.join("", changed)), NOT_VALID);
            }
        }
    }

    private void othersHaveNoChildren() {
        check.group("and the others have no children");
        for (String text : new String[] {payment(transfer()), wrap("Q", ANSWER), wrap("R", RETURN)}) {
            for (String letter : "I N S E D C A O V".split(" ")) {
                if (text.contains("<" + letter + ">")) {
                    answers(text.replace("<" + letter + ">", "<" + letter + "><x/>"), NOT_VALID);
                    answers(text.replace("</" + letter + ">", "<x></x></" + letter + ">"), NOT_VALID);
                }
            }
        }
    }

    private void onlyBlanksBetween() {
        check.group("those with children have no characters but blanks in their content (and no references)");
        String[] whole = {PAYMENT[0], PAYMENT[1], PAYMENT[2], transfer()};
        between(whole, text -> wrap("P", text), 0);
        between(TRANSFER, text -> payment(wrap("T", text)), 0);
        between(ANSWER, text -> wrap("Q", text), VALID);
        between(RETURN, text -> wrap("R", text), VALID);
    }

    private void between(String[] row, UnaryOperator<String> around, int good) {
        for (int gap = 0; gap <= row.length; gap++) {
            StringBuilder ahead = new StringBuilder();
            StringBuilder behind = new StringBuilder();
            for (int i = 0; i < row.length; i++) {
                (i < gap ? ahead : behind).append(row[i]);
            }
            for (String filler : new String[] {" ", "   ", "<!---->", " <!--x--> "}) {
                answers(around.apply(ahead + filler + behind), good);
            }
            for (String filler : new String[] {"x", "!", "~", ">", "0", " . ", "&#65;", "&#33;", "&#126;"}) {
                answers(around.apply(ahead + filler + behind), NOT_VALID);
            }
        }
    }

    private void blanksAtBothEnds() {
        check.group("a value is without the blanks at both ends");
        for (String blank : new String[] {" ", "    ", " <!----> ", "<!-- -->"}) {
            answers(answer(blank + "a" + blank, blank + "x", "A" + blank), VALID);
            answers(payment(blank + "1", "1" + blank, blank + "x" + blank, blank + "A68", "B65" + blank, blank + "1" + blank), 0);
            answers(NOT_VALID, answer(blank, "x", "A"), answer("a", blank, "A"), answer("a", "x", blank), back(blank));
        }
        answers(NOT_VALID, answer("a b", "x", "A"), answer("a", "x y", "A"), answer("a <!----> b", "x", "A"), back("1 0"), back("1 .0"),
                back("1. 0"), payment("0 1", "1", "x", "A68", "B65", "1"), payment("1", "1", "x", "A 68", "B65", "1"));
        answers(answer("a<!-- -->b", "x<!----><!---->y", "<!-- -->A"), VALID);
    }

    /** One character from each code of a reference (but for those that end or begin a sign) in a text at "?". */
    private void eachCode(String text, IntUnaryOperator want) {
        for (int c = 33; c <= 126; c++) {
            int due = c == '<' || c == '&' ? NOT_WELL_FORMED : want.applyAsInt(c);
            answers(text.replace('?', (char) c), due);
        }
    }

    private static IntUnaryOperator oneOf(String good, int answer) {
        return c -> good.indexOf(c) >= 0 ? answer : NOT_VALID;
    }

    private static IntUnaryOperator digitAs(char best, int other) {
        return c -> c == best ? 0 : DIGITS.indexOf(c) >= 0 ? other : NOT_VALID;
    }

    private void names() {
        check.group("I, E, O: 1 to 4 of a .. z, 0 .. 9");
        for (String name : new String[] {"?", "?0", "z?", "a?z", "?999", "000?"}) {
            eachCode(answer(name, "x", "A"), oneOf(NAMES, VALID));
            eachCode(answer("a", name, "A"), oneOf(NAMES, VALID));
            eachCode(payment("1", "1", name, "A68", "B65", "1"), oneOf(NAMES, 0));
        }
        for (String name : new String[] {"", "a", "ab", "abc", "abcd", "abcde", "abcdef", "00000", "abcdabcdabcd"}) {
            int length = name.length();
            boolean good = length >= 1 && length <= 4;
            answers(answer(name, "x", "A"), good ? VALID : NOT_VALID);
            answers(answer("a", name, "A"), good ? VALID : NOT_VALID);
            answers(payment("1", "1", name, "A68", "B65", "1"), good ? 0 : NOT_VALID);
        }
        answers(NOT_VALID, "<Q><I/><O>x</O><V>A</V></Q>", "<Q><I>a</I><O/><V>A</V></Q>", payment(transfer()).replace("<E>x</E>", "<E/>"));
    }

    private void numbers() {
        check.group("N: 1 or 2 digits");
        eachCode(payment("?", "1", "x", "A68", "B65", "1"), digitAs('1', 4));
        eachCode(payment("0?", "1", "x", "A68", "B65", "1"), digitAs('1', 4));
        eachCode(payment("?1", "1", "x", "A68", "B65", "1"), digitAs('0', 4));
        for (String number : new String[] {"", "001", "000", "100", "0001"}) {
            answers(payment(number, "1", "x", "A68", "B65", "1"), NOT_VALID);
        }
        answers(payment(transfer()).replace("<N>1</N>", "<N/>"), NOT_VALID);
    }

    private void accountCodes() {
        check.group("D, C: one of A, B, C, D and 2 digits");
        eachCode(payment("1", "1", "x", "?68", "B65", "1"), c -> c == 'A' ? 0 : "BCD".indexOf(c) >= 0 ? 6 : NOT_VALID);
        eachCode(payment("1", "1", "x", "?59", "B65", "1"), c -> c == 'D' ? 0 : "ABC".indexOf(c) >= 0 ? 6 : NOT_VALID);
        eachCode(payment("1", "1", "x", "B65", "?68", "1"), c -> c == 'A' ? 0 : "BCD".indexOf(c) >= 0 ? 6 : NOT_VALID);
        eachCode(payment("1", "1", "x", "B65", "?59", "1"), c -> c == 'D' ? 0 : "ABC".indexOf(c) >= 0 ? 6 : NOT_VALID);
        eachCode(payment("1", "1", "x", "A?8", "B65", "1"), digitAs('6', 6));
        eachCode(payment("1", "1", "x", "A6?", "B65", "1"), digitAs('8', 6));
        eachCode(payment("1", "1", "x", "B65", "A?8", "1"), digitAs('6', 6));
        eachCode(payment("1", "1", "x", "B65", "A6?", "1"), digitAs('8', 6));
        for (String code : new String[] {"", "A", "A6", "68", "A068", "A680", "AA68", "068"}) {
            answers(payment("1", "1", "x", code, "B65", "1"), NOT_VALID);
            answers(payment("1", "1", "x", "B65", code, "1"), NOT_VALID);
        }
        answers(NOT_VALID, payment(transfer()).replace("<D>A68</D>", "<D/>"), payment(transfer()).replace("<C>B65</C>", "<C/>"));
    }

    private void verdicts() {
        check.group("V: A or R");
        eachCode(answer("a", "x", "?"), oneOf("AR", VALID));
        answers(NOT_VALID, answer("a", "x", ""), answer("a", "x", "AA"), answer("a", "x", "AR"), answer("a", "x", "RA"),
                "<Q><I>a</I><O>x</O><V/></Q>");
    }

    private void amountDigits() {
        check.group("an amount: 1 to 6 digits, and perhaps \".\" and 1 or 2 digits");
        eachCode(back("?"), oneOf("123456789", VALID));
        eachCode(back("1?"), oneOf(DIGITS, VALID));
        eachCode(back("?1"), oneOf(DIGITS, VALID));
        eachCode(back("1?0"), oneOf(DIGITS + ".", VALID));
        eachCode(back("1.?"), oneOf(DIGITS, VALID));
        eachCode(back("1.0?"), oneOf(DIGITS, VALID));
        eachCode(back("1.?0"), oneOf(DIGITS, VALID));
        for (String part : new String[] {"", ".0", ".00", ".", ".000", ".0000"}) {
            boolean good = !part.equals(".") && part.length() <= 3;
            for (String units : new String[] {"", "1", "01", "001", "0001", "00001", "000001", "0000001", "00000001"}) {
                int want = good && !units.isEmpty() && units.length() <= 6 ? 0 : NOT_VALID;
                answers(payment("1", units + part, "x", "A68", "B65", "1"), want);
                answers(payment("1", "1", "x", "A68", "B65", units + part), want);
                answers(back(units + part), want == 0 ? VALID : NOT_VALID);
            }
        }
        answers(NOT_VALID, back("1.1.1"), back("1..1"), back(".."), back("1000000"), back("999999.999"), "<R><I>a</I><O>x</O><A/></R>");
        answers(VALID, back("999999"), back("999999.9"), back("999999.99"), back("100000"));
    }

    private void amountMoreThanZero() {
        check.group("an amount is more than 0");
        for (String amount : new String[] {"0", "00", "000000", "0.0", "0.00", "000000.0", "000000.00"}) {
            answers(NOT_VALID, back(amount), payment("1", amount, "x", "A68", "B65", "1"), payment("1", "1", "x", "A68", "B65", amount),
                    payment("1", amount, "x", "A68", "B65", amount));
        }
        for (String amount : new String[] {"0.01", "0.1", "0.10", "000000.01", "00.1", "1", "000001"}) {
            answers(back(amount), VALID);
            answers(payment("1", amount, "x", "A68", "B65", amount), 0);
        }
    }

    private void hundredths() {
        check.group("it counts hundredths");
        String[] texts = {"7.5", "7.50", "7.05", "7", "0.01", "0.1", "0.09", "0.99", "1", "999999", "999999.9", "999999.99", "010.10"};
        int[] counts = {750, 750, 705, 700, 1, 10, 9, 99, 100, 99999900, 99999990, 99999999, 1010};
        for (int i = 0; i < texts.length; i++) {
            PaymentHub hub = new PaymentHub(0, 0);
            Check.say(hub, payment("1", texts[i], "x", "A68", "B65", texts[i]));
            check.due("amount of " + texts[i], hub.transaction(0, 1), counts[i]);
        }
    }

    private void form(String text, String want) {
        PaymentHub hub = new PaymentHub(0, 0);
        check.due("submit() of " + text, Check.say(hub, text), 0);
        check.due("form of " + text, Check.data(hub, 0), want);
        check.due("its length", hub.journal(), want.length() + 3);
        check.due("number of its data", hub.octet(1), want.length());
    }

    private void formOfNumber() {
        check.group("N without zeros ahead (at least one digit)");
        String good = payment("1", "1.00", "x", "A68", "B65", "1.00");
        form(payment("1", "1.00", "x", "A68", "B65", "1.00"), good);
        form(payment("01", "1.00", "x", "A68", "B65", "1.00"), good);
        String three = "<P><I>a</I><N>3</N><S>3.00</S>";
        for (int i = 0; i < 3; i++) {
            three += transfer().replace("<E>x", "<E>x" + i).replace("<A>1<", "<A>1.00<");
        }
        form(three + "</P>", three + "</P>");
        form((three + "</P>").replace("<N>3", "<N> 03 "), three + "</P>");
    }

    private void formOfAmounts() {
        check.group("amounts without zeros ahead (at least one digit ahead of the point), the point, and two digits");
        String[] texts = {"1", "1.0", "1.00", "01", "000001.00", "0.5", "0.05", "000000.01", "000000.1", "10", "010", "100000", "999999.99",
            "090909.90", "7.5", "0100.0"};
        String[] forms = {"1.00", "1.00", "1.00", "1.00", "1.00", "0.50", "0.05", "0.01", "0.10", "10.00", "10.00", "100000.00", "999999.99",
            "90909.90", "7.50", "100.00"};
        for (int i = 0; i < texts.length; i++) {
            form(payment("1", texts[i], "x", "A68", "B65", texts[i]), payment("1", forms[i], "x", "A68", "B65", forms[i]));
        }
        PaymentHub hub = new PaymentHub(1000000, 0);
        Check.say(hub, payment("1", "900", "x", "A68", "B65", "900"));
        hub.work();
        Check.say(hub, answer("q", "x", "A"));
        int from = hub.journal();
        check.due("an R", Check.say(hub, back("000800.9").replace("<I>a", "<I>r")), 0);
        check.due("form of an R", Check.data(hub, from), back("800.90").replace("<I>a", "<I>r"));
    }

    private void shortestAndLongestForm() {
        check.group("the canonical form: the shortest and the longest");
        String longest = "<P><I>aaaa</I><N>3</N><S>999999.99</S>";
        for (int i = 0; i < 3; i++) {
            longest += "<T><E>xxx" + i + "</E><D>D59</D><C>C62</C><A>333333.33</A></T>";
        }
        check.due("its length", longest.length() + 4, 204);
        form(longest + "</P>", longest + "</P>");
        PaymentHub hub = new PaymentHub(1000, 0);
        Check.say(hub, payment(transfer()));
        hub.work();
        int from = hub.journal();
        check.due("the shortest", Check.say(hub, answer("q", "x", "R")), 0);
        check.due("number of its data", hub.octet(from + 1), 31);
        check.due("its form", Check.data(hub, from), answer("q", "x", "R"));
        check.due("its record", hub.journal(), from + 34);
    }

    private void fullText() {
        check.group("a text of 300 characters is read to its end");
        String good = payment("1", "1.00", "x", "A68", "B65", "1.00");
        int room = 300 - good.length();
        form(good + " ".repeat(room), good);
        form(" ".repeat(room) + good, good);
        form(good + "<!--" + "<".repeat(room - 7) + "-->", good);
        form(good.replace("<I>", "<I" + " ".repeat(room) + ">"), good);
        form(good.replace("</P>", "</P" + " ".repeat(room) + ">"), good);
        form(good.replace("a", " ".repeat(room) + "a"), good);
        answers(good + " ".repeat(room - 1) + "x", NOT_WELL_FORMED);
        answers(good + "<!--" + "<".repeat(room - 6) + "--", NOT_WELL_FORMED);
        answers("<a>" + "x".repeat(293) + "</a>", NOT_VALID);
        answers("<a>" + "x".repeat(297), NOT_WELL_FORMED);
    }

    private void mostElements() {
        check.group("as many elements as 300 characters can hold");
        String deep = "<a><a><a>";
        answers("<a>" + "<b/>".repeat(73) + "</a>", NOT_VALID);
        answers("<a>" + "<b/>".repeat(73) + "</a> ", NOT_VALID);
        answers("<a>" + "<b/>".repeat(74), NOT_WELL_FORMED);
        answers("<a>" + "<b/>".repeat(74) + "<", NOT_WELL_FORMED);
        answers(deep + "<b/>".repeat(72) + "<c", NOT_WELL_FORMED);
        answers(deep + "<b/>".repeat(72) + "<c>", NOT_WELL_FORMED);
        answers("<a/>".repeat(75), NOT_WELL_FORMED);
        answers(deep + "<a>" + "x".repeat(272) + "</a></a></a></a>", NOT_VALID);
    }

    private void nothingOfEarlierTexts() {
        check.group("a text is read as if there had been no other");
        PaymentHub hub = new PaymentHub(0, 0);
        String good = wrap("Q", ANSWER);
        String written = "<Q>x" + String.join("x", ANSWER) + "x</Q>";
        String[] earlier = {written, "<a>x<b>x<c>x<d>x</d></c></b></a>", "<a>" + "<b>x</b>".repeat(30) + "</a>", "<a><b><c><d>", "<a>", "<!--",
            "<a/>".repeat(75), " ".repeat(300), payment(transfer() + transfer() + transfer()), "<a>" + "~".repeat(290)};
        for (String text : earlier) {
            Check.say(hub, text);
            check.due("behind " + text, Check.say(hub, good), VALID);
            for (int length = 0; length < good.length(); length++) {
                Check.say(hub, good);
                check.due("the first " + length + " of " + good, Check.say(hub, good.substring(0, length)), NOT_WELL_FORMED);
                hub = length % 10 == 0 ? new PaymentHub(0, 0) : hub;
            }
        }
    }
}
