/**
 * A hub for payments: reads messages as text, keeps the accepted ones in a journal of bytes, and
 * drives payments through their statuses over four accounts. DOC.md has the numbered promises.
 *
 * <p>A record is done only when it stands whole in the journal, so what is held in memory is at
 * every moment what the whole records say, and a recovery has nothing to read again.
 */
public final class PaymentHub {
    public static final int DOWN = -9;
    public static final int NONE = -1;

    private static final int ACCEPTED = 0;
    private static final int MOST_MONEY = 1000000;
    private static final int MOST_CHARACTERS = 300;
    /** The shortest element has four characters: two brackets, a letter and a slash. */
    private static final int MOST_ELEMENTS = MOST_CHARACTERS / 4;
    private static final int DEEPEST = 4;
    private static final int BLANK = 32;
    private static final int END_OF_TEXT = 0;

    private static final String PAYMENT_ROW = "PINS";
    private static final String TRANSACTION_ROW = "TEDCA";
    private static final String ANSWER_ROW = "QIOV";
    private static final String RETURN_ROW = "RIOA";
    private static final int HEAD = 4;
    private static final int TRANSACTION_SIZE = 5;
    private static final int MOST_IN_MESSAGE = 3;

    private static final int ACCOUNTS = 4;
    private static final int MOST_TRANSACTIONS = 20;
    /** A transaction ends once, and may be returned once behind that. */
    private static final int MOST_REPORTS = 2 * MOST_TRANSACTIONS;
    /** A transaction is named by at most one P, one Q and one R that are accepted. */
    private static final int MOST_MESSAGES = 3 * MOST_TRANSACTIONS;

    private static final int RECEIVED = 1;
    private static final int WAITING = 2;
    private static final int HELD = 3;
    private static final int SETTLED = 4;
    private static final int REJECTED = 5;
    private static final int RETURNED = 6;

    private static final int MESSAGE_RECORD = 77;
    private static final int HOLD_RECORD = 72;
    private static final int WAIT_RECORD = 87;
    private static final int EXPIRY_RECORD = 88;
    private static final int SENT_RECORD = 83;
    private static final int CHECK_DIVISOR = 251;
    /** Kind, number of data, at most 255 data, check. */
    private static final int LONGEST_RECORD = 258;
    private static final int MESSAGE_BOUND = 4000;
    private static final int WORK_BOUND = 5000;
    /** Behind the bound of work come its last record, all expiries, and all reports sent. */
    private static final int JOURNAL_ROOM = WORK_BOUND + 7 + 4 * MOST_TRANSACTIONS + 4 * MOST_REPORTS;

    private static final int HOLD_TIME = 30;
    private static final int DEADLINE_BITS = 0xFFFFFF;
    private static final int LONGEST_TICK = 1000;
    private static final int WAITS_FROM = 100;
    private static final int MOST_WHOLE_RECORDS = 50;
    private static final int MOST_CUT_BYTES = 300;

    private final Text text;
    private final Message message;
    private final Records records;
    private final Form form;
    private final Ledger ledger;
    private int clock;

    public PaymentHub(int open, int limit) {
        Tree tree = new Tree();
        text = new Text(tree);
        message = new Message(tree);
        records = new Records();
        form = new Form(records);
        ledger = new Ledger(nearestMoney(open), nearestMoney(limit));
        clock = 0;
    }

    public int put(long characters, int n) {
        if (records.isDown()) {
            return DOWN;
        }
        if (n < 1 || n > 8 || !text.hasRoomFor(n) || !areReadable(characters, n)) {
            return NONE;
        }
        for (int i = 0; i < n; i++) {
            text.add(byteOf(characters, i));
        }
        return text.length();
    }

    public int submit() {
        if (records.isDown()) {
            return DOWN;
        }
        boolean wellFormed = text.read();
        text.clear();
        if (!wellFormed) {
            return 1;
        }
        if (!message.take()) {
            return 2;
        }
        int broken = ruleBroken();
        if (broken != ACCEPTED) {
            return broken;
        }
        form.compose(message);
        if (!records.write()) {
            return DOWN;
        }
        ledger.take(message);
        return ACCEPTED;
    }

    public int work() {
        if (records.isDown()) {
            return DOWN;
        }
        int t = ledger.transactions.firstQueued();
        if (t == NONE || records.length() >= WORK_BOUND) {
            return NONE;
        }
        return ledger.canPay(t) ? hold(t) : letWait(t);
    }

    public int tick(int n) {
        if (n >= 0 && n <= LONGEST_TICK) {
            clock += n;
        }
        for (int t = 0; t < MOST_TRANSACTIONS && !records.isDown(); t++) {
            if (ledger.transactions.isDue(t, clock) && records.writeNumber(EXPIRY_RECORD, t)) {
                ledger.reject(t);
            }
        }
        return clock;
    }

    public int send() {
        if (records.isDown()) {
            return DOWN;
        }
        int r = ledger.reports.firstUnmarked();
        if (r == NONE) {
            return NONE;
        }
        ledger.reports.copy(r);
        if (!records.writeNumber(SENT_RECORD, r)) {
            return DOWN;
        }
        ledger.reports.mark(r);
        return r;
    }

    public boolean fail(int n, int bytes) {
        if (records.isDown() || n < 0 || n > MOST_WHOLE_RECORDS || bytes < 0 || bytes > MOST_CUT_BYTES) {
            return false;
        }
        records.breakAfter(n, bytes);
        return true;
    }

    public boolean recover() {
        if (!records.isDown()) {
            return false;
        }
        records.restore();
        text.clear();
        return true;
    }

    public int journal() {
        return records.length();
    }

    public int octet(int k) {
        return records.byteAt(k);
    }

    public int transaction(int t, int what) {
        if (records.isDown() || !ledger.transactions.has(t)) {
            return NONE;
        }
        switch (what) {
            case 0:
                return ledger.transactions.statusOf(t);
            case 1:
                return ledger.transactions.amountOf(t);
            case 2:
                return ledger.transactions.debtorOf(t);
            case 3:
                return ledger.transactions.creditorOf(t);
            case 4:
                return ledger.transactions.deadlineOf(t);
            default:
                return NONE;
        }
    }

    public int queue(int k) {
        return records.isDown() ? NONE : ledger.transactions.queuedAt(k);
    }

    public int account(int a, int what) {
        if (records.isDown()) {
            return 0;
        }
        switch (what) {
            case 0:
                return ledger.accounts.balanceOf(a);
            case 1:
                return ledger.accounts.reservedOn(a);
            case 2:
                return ledger.accounts.entriesOf(a);
            default:
                return 0;
        }
    }

    public int entry(int a, int k) {
        return records.isDown() ? 0 : ledger.accounts.entryAt(a, k);
    }

    public int report(int r, int what) {
        if (records.isDown() || !ledger.reports.has(r)) {
            return NONE;
        }
        switch (what) {
            case 0:
                return ledger.reports.transactionOf(r);
            case 1:
                return ledger.reports.statusOf(r);
            case 2:
                return ledger.reports.isMarked(r) ? 1 : 0;
            default:
                return NONE;
        }
    }

    public int copies(int r) {
        return ledger.reports.copiesOf(r);
    }

    private int hold(int t) {
        int deadline = (clock + HOLD_TIME) & DEADLINE_BITS;
        records.begin(HOLD_RECORD);
        records.add(t);
        records.add(deadline >> 16);
        records.add((deadline >> 8) & 255);
        records.add(deadline & 255);
        if (!records.write()) {
            return DOWN;
        }
        ledger.hold(t, deadline);
        return t;
    }

    private int letWait(int t) {
        if (!records.writeNumber(WAIT_RECORD, t)) {
            return DOWN;
        }
        ledger.letWait(t);
        return WAITS_FROM + t;
    }

    private int ruleBroken() {
        if (ledger.knows(message.name())) {
            return 3;
        }
        switch (message.kind()) {
            case 'P':
                return ruleBrokenByPayment();
            case 'Q':
                return ruleBrokenByFollower(HELD);
            default:
                return ruleBrokenByReturn();
        }
    }

    private int ruleBrokenByPayment() {
        if (message.number() != message.size()) {
            return 4;
        }
        if (message.sum() != message.total()) {
            return 5;
        }
        if (!message.hasGoodAccounts()) {
            return 6;
        }
        if (!message.joinsDifferentAccounts()) {
            return 7;
        }
        if (!message.hasDifferentNames() || ledger.knowsAnyOf(message)) {
            return 8;
        }
        boolean fits = ledger.transactions.hasRoomFor(message.size());
        return fits && records.length() < MESSAGE_BOUND ? ACCEPTED : 9;
    }

    private int ruleBrokenByFollower(int statusNeeded) {
        if (records.length() >= MESSAGE_BOUND) {
            return 9;
        }
        int t = ledger.transactions.find(message.original());
        if (t == NONE) {
            return 10;
        }
        return ledger.transactions.statusOf(t) == statusNeeded ? ACCEPTED : 11;
    }

    private int ruleBrokenByReturn() {
        int broken = ruleBrokenByFollower(SETTLED);
        if (broken != ACCEPTED) {
            return broken;
        }
        int t = ledger.transactions.find(message.original());
        if (message.returned() > ledger.transactions.amountOf(t)) {
            return 12;
        }
        return ledger.accounts.available(ledger.transactions.creditorOf(t)) < message.returned() ? 13 : ACCEPTED;
    }

    private static int nearestMoney(int money) {
        return Math.max(0, Math.min(money, MOST_MONEY));
    }

    private static int byteOf(long characters, int place) {
        return (int) (characters >>> (8 * place)) & 255;
    }

    private static boolean areReadable(long characters, int n) {
        for (int i = 0; i < n; i++) {
            int c = byteOf(characters, i);
            if (c < 32 || c > 126) {
                return false;
            }
        }
        return true;
    }

    private static boolean isDigit(int c) {
        return c >= '0' && c <= '9';
    }

    private static boolean isLetter(int c) {
        return c >= 'A' && c <= 'Z' || c >= 'a' && c <= 'z';
    }

    /** The element of a message and its children without children, T left out; empty when there is none such. */
    private static String rowOf(int kind) {
        switch (kind) {
            case 'P':
                return PAYMENT_ROW;
            case 'Q':
                return ANSWER_ROW;
            case 'R':
                return RETURN_ROW;
            default:
                return "";
        }
    }

    /** An account is kept as the number that rule 6 divides, which tells its letter too. */
    private static int letterPlaceOf(int accountNumber) {
        return (accountNumber - 1000) / 100;
    }

    /** The text that is being put, and its reading as a document. */
    private static final class Text {
        private final Tree tree;
        private final int[] characters;
        private int length;
        private int at;

        Text(Tree tree) {
            this.tree = tree;
            characters = new int[MOST_CHARACTERS];
            length = 0;
            at = 0;
        }

        int length() {
            return length;
        }

        boolean hasRoomFor(int n) {
            return length + n <= MOST_CHARACTERS;
        }

        void add(int c) {
            if (length < characters.length) {
                characters[length] = c;
                length++;
            }
        }

        void clear() {
            length = 0;
        }

        /** Answers whether the text is well-formed; then the tree holds it. */
        boolean read() {
            at = 0;
            tree.clear();
            for (int step = 0; step < MOST_CHARACTERS && at < length; step++) {
                if (!readNext()) {
                    return false;
                }
            }
            return at == length && tree.isComplete();
        }

        private boolean readNext() {
            int c = peek(0);
            if (c == '<') {
                return readSign();
            }
            if (c == '&') {
                return readReference();
            }
            at++;
            return tree.isOpen() ? tree.add(c) : c == BLANK;
        }

        private boolean readSign() {
            switch (peek(1)) {
                case '!':
                    return readComment();
                case '/':
                    return readEnd();
                default:
                    return readBegin();
            }
        }

        private boolean readComment() {
            if (peek(2) != '-' || peek(3) != '-') {
                return false;
            }
            at += 4;
            while (at < length && (peek(0) != '-' || peek(1) != '-')) {
                at++;
            }
            boolean ended = peek(2) == '>';
            at += 3;
            return ended;
        }

        private boolean readBegin() {
            int letter = peek(1);
            if (!isLetter(letter) || !tree.begin(letter)) {
                return false;
            }
            at += 2;
            skipBlanks();
            if (peek(0) == '/') {
                at++;
                tree.end(letter);
            }
            return readClosingSign();
        }

        private boolean readEnd() {
            int letter = peek(2);
            if (!tree.end(letter)) {
                return false;
            }
            at += 3;
            skipBlanks();
            return readClosingSign();
        }

        private boolean readClosingSign() {
            boolean closed = peek(0) == '>';
            at++;
            return closed;
        }

        private boolean readReference() {
            if (peek(1) != '#') {
                return false;
            }
            at += 2;
            int number = 0;
            int digits = 0;
            while (digits < 3 && isDigit(peek(0))) {
                number = 10 * number + peek(0) - '0';
                digits++;
                at++;
            }
            boolean closed = peek(0) == ';';
            at++;
            return closed && digits >= 2 && number >= 33 && number <= 126 && tree.add(number);
        }

        private void skipBlanks() {
            while (at < length && peek(0) == BLANK) {
                at++;
            }
        }

        private int peek(int ahead) {
            int k = at + ahead;
            return k >= 0 && k < length && k < characters.length ? characters[k] : END_OF_TEXT;
        }
    }

    /** The elements of a document in the order in which they begin, and the characters of their contents. */
    private static final class Tree {
        private final int[] letters;
        private final int[] depths;
        private final int[] begins;
        private final int[] ends;
        private final boolean[] written;
        private int size;
        private final int[] path;
        private int open;
        private final int[] characters;
        private int length;

        Tree() {
            letters = new int[MOST_ELEMENTS];
            depths = new int[MOST_ELEMENTS];
            begins = new int[MOST_ELEMENTS];
            ends = new int[MOST_ELEMENTS];
            written = new boolean[MOST_ELEMENTS];
            size = 0;
            path = new int[DEEPEST];
            open = 0;
            characters = new int[MOST_CHARACTERS];
            length = 0;
        }

        void clear() {
            size = 0;
            open = 0;
            length = 0;
        }

        boolean isOpen() {
            return open > 0;
        }

        boolean isComplete() {
            return open == 0 && size > 0;
        }

        int size() {
            return size;
        }

        /** Refuses a second outermost element, and one that lies too deep. */
        boolean begin(int letter) {
            if (open == 0 && size > 0 || open >= DEEPEST || size >= MOST_ELEMENTS) {
                return false;
            }
            letters[size] = letter;
            depths[size] = open;
            begins[size] = length;
            ends[size] = length;
            written[size] = false;
            path[open] = size;
            open++;
            size++;
            return true;
        }

        boolean end(int letter) {
            int k = innermost();
            if (!has(k) || letters[k] != letter) {
                return false;
            }
            ends[k] = length;
            open--;
            return true;
        }

        boolean add(int c) {
            int k = innermost();
            if (!has(k) || length >= MOST_CHARACTERS) {
                return false;
            }
            characters[length] = c;
            length++;
            if (c != BLANK) {
                written[k] = true;
            }
            return true;
        }

        boolean isAt(int k, int letter, int depth) {
            return has(k) && letters[k] == letter && depths[k] == depth;
        }

        int letterAt(int k) {
            return has(k) ? letters[k] : NONE;
        }

        boolean hasOnlyBlanks(int k) {
            return has(k) && !written[k];
        }

        int beginOf(int k) {
            return has(k) ? begins[k] : 0;
        }

        int endOf(int k) {
            return has(k) ? ends[k] : 0;
        }

        int characterAt(int i) {
            return i >= 0 && i < length && i < MOST_CHARACTERS ? characters[i] : END_OF_TEXT;
        }

        private boolean has(int k) {
            return k >= 0 && k < size && k < MOST_ELEMENTS;
        }

        private int innermost() {
            return open > 0 && open <= DEEPEST ? path[open - 1] : NONE;
        }
    }

    /** The value of one element without children, as a number that tells all of it; NONE when it is not as said. */
    private static final class Value {
        private final Tree tree;
        private int from;
        private int length;

        Value(Tree tree) {
            this.tree = tree;
            from = 0;
            length = 0;
        }

        int read(int k) {
            trim(tree.beginOf(k), tree.endOf(k));
            switch (tree.letterAt(k)) {
                case 'I':
                case 'E':
                case 'O':
                    return name();
                case 'N':
                    return digits(0, length, 2);
                case 'D':
                case 'C':
                    return accountNumber();
                case 'V':
                    return verdict();
                case 'S':
                case 'A':
                    return amount();
                default:
                    return NONE;
            }
        }

        private void trim(int begin, int end) {
            int first = begin;
            int behind = end;
            while (first < behind && tree.characterAt(first) == BLANK) {
                first++;
            }
            while (first < behind && tree.characterAt(behind - 1) == BLANK) {
                behind--;
            }
            from = first;
            length = behind - first;
        }

        /** The characters side by side, eight bits each: no two names have the same number. */
        private int name() {
            if (length < 1 || length > 4) {
                return NONE;
            }
            int name = 0;
            for (int i = 0; i < length; i++) {
                int c = tree.characterAt(from + i);
                if (!isDigit(c) && (c < 'a' || c > 'z')) {
                    return NONE;
                }
                name = name << 8 | c;
            }
            return name;
        }

        private int accountNumber() {
            int place = tree.characterAt(from) - 'A';
            int rest = digits(1, length, 2);
            if (length != 3 || place < 0 || place >= ACCOUNTS || rest == NONE) {
                return NONE;
            }
            return 1000 + 100 * place + rest;
        }

        private int verdict() {
            int c = tree.characterAt(from);
            return length == 1 && (c == 'A' || c == 'R') ? c : NONE;
        }

        private int amount() {
            int point = 0;
            while (point < length && tree.characterAt(from + point) != '.') {
                point++;
            }
            int units = digits(0, point, 6);
            int parts = point == length ? 0 : digits(point + 1, length, 2);
            if (units == NONE || parts == NONE) {
                return NONE;
            }
            boolean tenths = length - point == 2;
            int hundredths = 100 * units + (tenths ? 10 * parts : parts);
            return hundredths > 0 ? hundredths : NONE;
        }

        private int digits(int first, int behind, int most) {
            if (behind - first < 1 || behind - first > most) {
                return NONE;
            }
            int number = 0;
            for (int i = first; i < behind; i++) {
                int c = tree.characterAt(from + i);
                if (!isDigit(c)) {
                    return NONE;
                }
                number = 10 * number + c - '0';
            }
            return number;
        }
    }

    /** A valid document: the values of its elements, at the places that these have in the tree. */
    private static final class Message {
        private final Tree tree;
        private final Value value;
        private final int[] values;
        private int kind;
        private int size;

        Message(Tree tree) {
            this.tree = tree;
            value = new Value(tree);
            values = new int[HEAD + TRANSACTION_SIZE * MOST_IN_MESSAGE];
            kind = 0;
            size = 0;
        }

        /** Answers whether the document of the tree is valid; then it is this message. */
        boolean take() {
            kind = tree.letterAt(0);
            size = kind == 'P' ? (tree.size() - HEAD) / TRANSACTION_SIZE : 0;
            if (size > MOST_IN_MESSAGE || kind == 'P' && size < 1) {
                return false;
            }
            boolean valid = tree.size() == HEAD + TRANSACTION_SIZE * size && takeRow(0, rowOf(kind), 0);
            for (int t = 0; t < size && valid; t++) {
                valid = takeRow(placeOf(t), TRANSACTION_ROW, 1);
            }
            return valid;
        }

        private boolean takeRow(int place, String row, int depth) {
            if (row.isEmpty() || !tree.isAt(place, row.charAt(0), depth) || !tree.hasOnlyBlanks(place)) {
                return false;
            }
            for (int i = 1; i < row.length(); i++) {
                int k = place + i;
                int found = tree.isAt(k, row.charAt(i), depth + 1) ? value.read(k) : NONE;
                if (found == NONE || k < 0 || k >= values.length) {
                    return false;
                }
                values[k] = found;
            }
            return true;
        }

        int kind() {
            return kind;
        }

        /** How many T it has. */
        int size() {
            return size;
        }

        int placeOf(int t) {
            return HEAD + TRANSACTION_SIZE * t;
        }

        int valueAt(int k) {
            return k >= 0 && k < values.length ? values[k] : NONE;
        }

        int name() {
            return valueAt(1);
        }

        int number() {
            return valueAt(2);
        }

        int sum() {
            return valueAt(3);
        }

        int original() {
            return valueAt(2);
        }

        int verdict() {
            return valueAt(3);
        }

        int returned() {
            return valueAt(3);
        }

        int nameOf(int t) {
            return valueAt(placeOf(t) + 1);
        }

        int debtorOf(int t) {
            return valueAt(placeOf(t) + 2);
        }

        int creditorOf(int t) {
            return valueAt(placeOf(t) + 3);
        }

        int amountOf(int t) {
            return valueAt(placeOf(t) + 4);
        }

        int total() {
            int total = 0;
            for (int t = 0; t < size; t++) {
                total += amountOf(t);
            }
            return total;
        }

        boolean hasGoodAccounts() {
            for (int t = 0; t < size; t++) {
                if (debtorOf(t) % 97 != 1 || creditorOf(t) % 97 != 1) {
                    return false;
                }
            }
            return true;
        }

        boolean joinsDifferentAccounts() {
            for (int t = 0; t < size; t++) {
                if (letterPlaceOf(debtorOf(t)) == letterPlaceOf(creditorOf(t))) {
                    return false;
                }
            }
            return true;
        }

        boolean hasDifferentNames() {
            for (int t = 0; t < size; t++) {
                for (int other = 0; other < t; other++) {
                    if (nameOf(t) == nameOf(other)) {
                        return false;
                    }
                }
            }
            return true;
        }
    }

    /** Writes the canonical form of a message as the data of a record. */
    private static final class Form {
        private final Records records;

        Form(Records records) {
            this.records = records;
        }

        void compose(Message message) {
            records.begin(MESSAGE_RECORD);
            addRow(message, 0, rowOf(message.kind()));
            for (int t = 0; t < message.size(); t++) {
                addRow(message, message.placeOf(t), TRANSACTION_ROW);
                addEnd('T');
            }
            addEnd(message.kind());
        }

        /** Leaves the first element of the row open, for what else may lie in it. */
        private void addRow(Message message, int place, String row) {
            for (int i = 0; i < row.length(); i++) {
                int letter = row.charAt(i);
                addBegin(letter);
                if (i > 0) {
                    addValue(letter, message.valueAt(place + i));
                    addEnd(letter);
                }
            }
        }

        private void addBegin(int letter) {
            records.add('<');
            records.add(letter);
            records.add('>');
        }

        private void addEnd(int letter) {
            records.add('<');
            records.add('/');
            records.add(letter);
            records.add('>');
        }

        private void addValue(int letter, int value) {
            switch (letter) {
                case 'N':
                    addNumber(value);
                    break;
                case 'D':
                case 'C':
                    records.add('A' + letterPlaceOf(value));
                    addTwoDigits(value % 100);
                    break;
                case 'V':
                    records.add(value);
                    break;
                case 'S':
                case 'A':
                    addNumber(value / 100);
                    records.add('.');
                    addTwoDigits(value % 100);
                    break;
                default:
                    addName(value);
            }
        }

        private void addName(int name) {
            for (int shift = 24; shift >= 0; shift -= 8) {
                int c = (name >> shift) & 255;
                if (c != 0) {
                    records.add(c);
                }
            }
        }

        private void addNumber(int number) {
            for (int unit = 100000; unit >= 1; unit /= 10) {
                if (number >= unit || unit == 1) {
                    records.add('0' + number / unit % 10);
                }
            }
        }

        private void addTwoDigits(int number) {
            records.add('0' + number / 10);
            records.add('0' + number % 10);
        }
    }

    /** The journal, the record that is being made for it, and the power that may fail at a record. */
    private static final class Records {
        private final byte[] bytes;
        private int length;
        private int whole;
        private final int[] draft;
        private int drafted;
        private boolean failing;
        private int left;
        private int cut;
        private boolean down;

        Records() {
            bytes = new byte[JOURNAL_ROOM];
            length = 0;
            whole = 0;
            draft = new int[LONGEST_RECORD];
            drafted = 0;
            failing = false;
            left = 0;
            cut = 0;
            down = false;
        }

        boolean isDown() {
            return down;
        }

        int length() {
            return length;
        }

        int byteAt(int k) {
            return k >= 0 && k < length && k < bytes.length ? bytes[k] & 255 : NONE;
        }

        void breakAfter(int wholeRecords, int bytesOfNext) {
            failing = true;
            left = wholeRecords;
            cut = bytesOfNext;
        }

        void restore() {
            length = whole;
            down = false;
        }

        void begin(int kind) {
            drafted = 0;
            add(kind);
            add(0);
        }

        void add(int data) {
            if (drafted < draft.length) {
                draft[drafted] = data;
                drafted++;
            }
        }

        boolean writeNumber(int kind, int number) {
            begin(kind);
            add(number);
            return write();
        }

        /** Answers false when the power fails at the record. */
        boolean write() {
            draft[1] = drafted - 2;
            add(check());
            if (failing && left == 0) {
                append(Math.min(cut, drafted - 1));
                failing = false;
                down = true;
                return false;
            }
            if (failing) {
                left--;
            }
            append(drafted);
            whole = length;
            return true;
        }

        private int check() {
            int sum = 0;
            for (int i = 0; i < drafted && i < draft.length; i++) {
                sum += draft[i];
            }
            return sum % CHECK_DIVISOR;
        }

        private void append(int count) {
            for (int i = 0; i < count && i < draft.length && length < bytes.length; i++) {
                bytes[length] = (byte) draft[i];
                length++;
            }
        }
    }

    /** Balances, reserved amounts and entries of the four accounts. */
    private static final class Accounts {
        private final int limit;
        private final int[] balances;
        private final int[] reserved;
        private final int[] counts;
        private final int[][] entries;

        Accounts(int open, int limit) {
            this.limit = limit;
            balances = new int[ACCOUNTS];
            reserved = new int[ACCOUNTS];
            counts = new int[ACCOUNTS];
            entries = new int[ACCOUNTS][MOST_REPORTS];
            for (int a = 0; a < ACCOUNTS; a++) {
                balances[a] = open;
            }
        }

        int available(int a) {
            return balanceOf(a) - reservedOn(a) + limit;
        }

        int balanceOf(int a) {
            return has(a) ? balances[a] : 0;
        }

        int reservedOn(int a) {
            return has(a) ? reserved[a] : 0;
        }

        int entriesOf(int a) {
            return has(a) ? counts[a] : 0;
        }

        int entryAt(int a, int k) {
            return has(a) && k >= 0 && k < counts[a] && k < MOST_REPORTS ? entries[a][k] : 0;
        }

        void reserve(int a, int amount) {
            if (has(a)) {
                reserved[a] += amount;
            }
        }

        void book(int a, int amount) {
            if (has(a) && counts[a] < MOST_REPORTS) {
                entries[a][counts[a]] = amount;
                counts[a]++;
                balances[a] += amount;
            }
        }

        private boolean has(int a) {
            return a >= 0 && a < ACCOUNTS;
        }
    }

    /** The transactions by their numbers, and the queue of those that are received. */
    private static final class Transactions {
        private final int[] names;
        private final int[] amounts;
        private final int[] debtors;
        private final int[] creditors;
        private final int[] statuses;
        private final int[] deadlines;
        private int size;
        private final int[] queued;
        private int queueLength;

        Transactions() {
            names = new int[MOST_TRANSACTIONS];
            amounts = new int[MOST_TRANSACTIONS];
            debtors = new int[MOST_TRANSACTIONS];
            creditors = new int[MOST_TRANSACTIONS];
            statuses = new int[MOST_TRANSACTIONS];
            deadlines = new int[MOST_TRANSACTIONS];
            size = 0;
            queued = new int[MOST_TRANSACTIONS];
            queueLength = 0;
        }

        boolean has(int t) {
            return t >= 0 && t < size && t < MOST_TRANSACTIONS;
        }

        boolean hasRoomFor(int more) {
            return size + more <= MOST_TRANSACTIONS;
        }

        int find(int name) {
            for (int t = 0; t < size && t < MOST_TRANSACTIONS; t++) {
                if (names[t] == name) {
                    return t;
                }
            }
            return NONE;
        }

        int statusOf(int t) {
            return has(t) ? statuses[t] : NONE;
        }

        int amountOf(int t) {
            return has(t) ? amounts[t] : 0;
        }

        int debtorOf(int t) {
            return has(t) ? debtors[t] : NONE;
        }

        int creditorOf(int t) {
            return has(t) ? creditors[t] : NONE;
        }

        int deadlineOf(int t) {
            return has(t) ? deadlines[t] : 0;
        }

        boolean isDue(int t, int clock) {
            return has(t) && statuses[t] == HELD && deadlines[t] <= clock;
        }

        int firstQueued() {
            return queuedAt(0);
        }

        int queuedAt(int k) {
            return k >= 0 && k < queueLength && k < MOST_TRANSACTIONS ? queued[k] : NONE;
        }

        void receive(int name, int amount, int debtor, int creditor) {
            if (size < MOST_TRANSACTIONS) {
                names[size] = name;
                amounts[size] = amount;
                debtors[size] = debtor;
                creditors[size] = creditor;
                deadlines[size] = 0;
                size++;
                enqueue(size - 1);
            }
        }

        void become(int t, int status) {
            if (has(t)) {
                statuses[t] = status;
            }
        }

        void setDeadline(int t, int deadline) {
            if (has(t)) {
                deadlines[t] = deadline;
            }
        }

        void dropFirstQueued() {
            for (int k = 1; k < queueLength && k < MOST_TRANSACTIONS; k++) {
                queued[k - 1] = queued[k];
            }
            if (queueLength > 0) {
                queueLength--;
            }
        }

        void wakeThoseOf(int debtor) {
            for (int t = 0; t < size && t < MOST_TRANSACTIONS; t++) {
                if (statuses[t] == WAITING && debtors[t] == debtor) {
                    enqueue(t);
                }
            }
        }

        private void enqueue(int t) {
            if (has(t) && queueLength < MOST_TRANSACTIONS) {
                statuses[t] = RECEIVED;
                queued[queueLength] = t;
                queueLength++;
            }
        }
    }

    /** The ends of transactions, and the copies that went out, which no journal tells. */
    private static final class Reports {
        private final int[] ended;
        private final int[] statuses;
        private final boolean[] marked;
        private final int[] copied;
        private int size;

        Reports() {
            ended = new int[MOST_REPORTS];
            statuses = new int[MOST_REPORTS];
            marked = new boolean[MOST_REPORTS];
            copied = new int[MOST_REPORTS];
            size = 0;
        }

        boolean has(int r) {
            return r >= 0 && r < size && r < MOST_REPORTS;
        }

        void add(int t, int status) {
            if (size < MOST_REPORTS) {
                ended[size] = t;
                statuses[size] = status;
                size++;
            }
        }

        int transactionOf(int r) {
            return has(r) ? ended[r] : NONE;
        }

        int statusOf(int r) {
            return has(r) ? statuses[r] : NONE;
        }

        boolean isMarked(int r) {
            return has(r) && marked[r];
        }

        int copiesOf(int r) {
            return has(r) ? copied[r] : 0;
        }

        int firstUnmarked() {
            for (int r = 0; r < size && r < MOST_REPORTS; r++) {
                if (!marked[r]) {
                    return r;
                }
            }
            return NONE;
        }

        void copy(int r) {
            if (has(r)) {
                copied[r]++;
            }
        }

        void mark(int r) {
            if (has(r)) {
                marked[r] = true;
            }
        }
    }

    /** All that follows from the records: each method does what one kind of record says. */
    private static final class Ledger {
        private final Accounts accounts;
        private final Transactions transactions;
        private final Reports reports;
        private final int[] messageNames;
        private int messages;

        Ledger(int open, int limit) {
            accounts = new Accounts(open, limit);
            transactions = new Transactions();
            reports = new Reports();
            messageNames = new int[MOST_MESSAGES];
            messages = 0;
        }

        boolean knows(int messageName) {
            for (int m = 0; m < messages && m < messageNames.length; m++) {
                if (messageNames[m] == messageName) {
                    return true;
                }
            }
            return false;
        }

        boolean knowsAnyOf(Message message) {
            for (int t = 0; t < message.size(); t++) {
                if (transactions.find(message.nameOf(t)) != NONE) {
                    return true;
                }
            }
            return false;
        }

        boolean canPay(int t) {
            return transactions.amountOf(t) <= accounts.available(transactions.debtorOf(t));
        }

        void take(Message message) {
            if (messages < messageNames.length) {
                messageNames[messages] = message.name();
                messages++;
            }
            switch (message.kind()) {
                case 'P':
                    receive(message);
                    break;
                case 'Q':
                    answer(transactions.find(message.original()), message.verdict());
                    break;
                default:
                    giveBack(transactions.find(message.original()), message.returned());
            }
        }

        void hold(int t, int deadline) {
            transactions.dropFirstQueued();
            transactions.become(t, HELD);
            transactions.setDeadline(t, deadline);
            accounts.reserve(transactions.debtorOf(t), transactions.amountOf(t));
        }

        void letWait(int t) {
            transactions.dropFirstQueued();
            transactions.become(t, WAITING);
        }

        void reject(int t) {
            accounts.reserve(transactions.debtorOf(t), -transactions.amountOf(t));
            end(t, REJECTED);
            transactions.wakeThoseOf(transactions.debtorOf(t));
        }

        private void receive(Message message) {
            for (int t = 0; t < message.size(); t++) {
                int debtor = letterPlaceOf(message.debtorOf(t));
                int creditor = letterPlaceOf(message.creditorOf(t));
                transactions.receive(message.nameOf(t), message.amountOf(t), debtor, creditor);
            }
        }

        private void answer(int t, int verdict) {
            if (verdict == 'A') {
                settle(t);
            } else {
                reject(t);
            }
        }

        private void settle(int t) {
            int amount = transactions.amountOf(t);
            accounts.reserve(transactions.debtorOf(t), -amount);
            accounts.book(transactions.debtorOf(t), -amount);
            accounts.book(transactions.creditorOf(t), amount);
            end(t, SETTLED);
            transactions.wakeThoseOf(transactions.creditorOf(t));
        }

        private void giveBack(int t, int amount) {
            accounts.book(transactions.creditorOf(t), -amount);
            accounts.book(transactions.debtorOf(t), amount);
            end(t, RETURNED);
            transactions.wakeThoseOf(transactions.debtorOf(t));
        }

        private void end(int t, int status) {
            transactions.become(t, status);
            reports.add(t, status);
        }
    }
}
