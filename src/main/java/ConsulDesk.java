/** A desk of consuls in far ports; the numbered promises are in DOC.md. */
public final class ConsulDesk {
    public static final int NONE = -1;
    public static final int NO_FEE = -10000;

    private static final int PORTS = 8;
    private static final int FARTHEST = 60;
    private static final int TARIFFS = 30;
    private static final int PAPERS = 200;
    private static final int LAST_DAY = 10000;
    private static final int LONGEST_PASS = 400;
    private static final int FULL_STOCK = 10000;
    private static final int TAPE = 300;
    private static final int FED = 20;
    private static final int GREATEST_FEE = 5000;
    private static final int GREATEST_KIND = 9;
    private static final int GREATEST_VALUE = 9999;
    private static final int MOST_SHEETS = 99;
    private static final int ACCOUNT_DAYS = 30;

    /** What the document answers by -2: not yet, or not at all. */
    private static final int NOT = -2;

    private static final int NO_SUCH = 1;
    private static final int BAD_NUMBER = 2;
    private static final int NO_ROOM = 3;
    private static final int FAULTY = 4;
    private static final int NO_SEAL = 5;
    private static final int NO_STAMPS = 6;
    private static final int TOO_LATE = 7;

    private static final int FAULT_FORM = 1;
    private static final int FAULT_NAME = 2;
    private static final int FAULT_NUMBER = 3;
    private static final int FAULT_MANY = 4;

    private static final int LINES = 12;
    private static final int TESTS = 4;
    private static final int TERMS = 4;
    private static final int LONGEST_WORD = 8;
    private static final int LONGEST_NUMBER = 3;
    private static final int BLANK = 32;
    private static final String SIGNS = "<>=+*/;";

    // The kinds of a token: these, or the byte of a sign (all of which are above them).
    private static final int END = 0;
    private static final int NO_TOKEN = 1;
    private static final int NUMBER = 2;
    private static final int OTHER_WORD = 3;
    private static final int FEE = 4;
    private static final int WHEN = 5;
    private static final int AND = 6;
    private static final int IS = 7;
    private static final int VALUE = 8;
    private static final int SHEETS = 9;
    private static final int PORT = 10;
    private static final int SEALED = 11;
    /** The name of a term that is a number alone: it measures 1 in every paper. */
    private static final int UNIT = 12;
    /** Stands ahead of the first token, so that going over it leads there. */
    private static final int START = 13;

    private static final int[] WORTHS = {1, 2, 5, 10, 50};
    /**
     * How many below the most that fit a fewest choice can take, by worth. More would leave lesser
     * stamps of which some make one (of 5: two) of that worth together, and those are fewer.
     */
    private static final int[] SPARED = {0, 0, 1, 2, 1};

    private final Port[] ports = new Port[PORTS];
    private final Tariff[] tariffs = new Tariff[TARIFFS];
    private final Paper[] papers = new Paper[PAPERS];
    private final Tape tape = new Tape();
    private final Tokens tokens = new Tokens();
    private final Reader reader = new Reader(tokens);
    private final Change change = new Change();
    private int portCount = 0;
    private int tariffCount = 0;
    private int paperCount = 0;
    private int today = 0;
    private int lastTrouble = 0;
    private int lastFault = 0;

    public ConsulDesk() {
    }

    public int port(int days) {
        if (days < 1 || days > FARTHEST) {
            return refuse(BAD_NUMBER);
        }
        if (portCount >= ports.length) {
            return refuse(NO_ROOM);
        }
        Port opened = new Port(days, today);
        for (int number = 0; number < tariffCount; number++) {
            opened.send(today);
        }
        ports[portCount] = opened;
        portCount++;
        return accept(portCount - 1);
    }

    // No trouble is told of feed(): the document names none for it.
    public int feed(int a, int b, int c, int d, int e) {
        if (tape.length + FED > TAPE) {
            return NONE;
        }
        tape.add(a);
        tape.add(b);
        tape.add(c);
        tape.add(d);
        tape.add(e);
        return tape.length;
    }

    public int tariff(int n) {
        if (n < 0 || n > tape.length) {
            return refuse(BAD_NUMBER);
        }
        tokens.cut(tape, n);
        Line[] lines = reader.read();
        tape.clear();
        lastFault = reader.fault;
        if (lines == null) {
            return refuse(FAULTY);
        }
        if (tariffCount >= tariffs.length) {
            return refuse(NO_ROOM);
        }
        tariffs[tariffCount] = new Tariff(today, lines);
        tariffCount++;
        sendOut();
        return accept(tariffCount - 1);
    }

    public int fault() {
        return lastFault;
    }

    public int where() {
        return lastTrouble == FAULTY ? reader.place : NONE;
    }

    public boolean lost(int port, int number) {
        Port there = portAt(port);
        if (there == null || !there.wasSent(number)) {
            refuse(NO_SUCH);
            return false;
        }
        if (!there.lose(number, today)) {
            refuse(TOO_LATE);
            return false;
        }
        accept(0);
        return true;
    }

    public int pass(int days) {
        if (days < 1 || days > LONGEST_PASS || days > LAST_DAY - today) {
            return refuse(BAD_NUMBER);
        }
        today += days;
        return accept(today);
    }

    public int force(int port) {
        Port there = portAt(port);
        return there == null ? NONE : there.inForce(today);
    }

    public int came(int port, int number) {
        Port there = portAt(port);
        if (there == null || !there.wasSent(number)) {
            return NONE;
        }
        return there.comeDay(number, today);
    }

    public int asked(int port, int number) {
        Port there = portAt(port);
        if (there == null || !there.wasSent(number)) {
            return NONE;
        }
        return there.askDay(number, today) == NOT ? 0 : 1;
    }

    public int under(int what) {
        if (what < 0 || what > 2) {
            return NONE;
        }
        int many = 0;
        for (int i = 0; i < portCount; i++) {
            Port there = portAt(i);
            if (there != null) {
                many += there.onTheWay(what, today);
            }
        }
        return many;
    }

    public int stock(int port, int worth, int many) {
        Port there = portAt(port);
        if (there == null || !isWorth(worth)) {
            return refuse(NO_SUCH);
        }
        // Stamps come and are never fetched away: a number below 0 is refused though enough are there.
        if (many < 0 || many > FULL_STOCK - there.stampsOf(worth)) {
            return refuse(BAD_NUMBER);
        }
        there.addStamps(worth, many);
        return accept(there.stampsOf(worth));
    }

    public int fee(int tariff, int port, int kind, int value, int sheets) {
        Tariff told = tariffAt(tariff);
        Port there = portAt(port);
        if (told == null || there == null) {
            return refuse(NO_SUCH);
        }
        if (!isPaper(kind, value, sheets)) {
            return refuse(BAD_NUMBER);
        }
        return accept(told.feeOf(new Paper(port, kind, value, sheets, there.papers)));
    }

    public int seal(int port, int kind, int value, int sheets) {
        Port there = portAt(port);
        if (there == null) {
            return refuse(NO_SUCH);
        }
        if (!isPaper(kind, value, sheets)) {
            return refuse(BAD_NUMBER);
        }
        int number = there.inForce(today);
        Tariff inForce = tariffAt(number);
        if (inForce == null) {
            return refuse(NO_SEAL);
        }
        Paper paper = new Paper(port, kind, value, sheets, there.papers);
        int due = inForce.feeOf(paper);
        if (due == NOT) {
            return refuse(NO_SEAL);
        }
        int[] taken = change.fewest(there.stock, due);
        if (taken == null) {
            return refuse(NO_STAMPS);
        }
        if (paperCount >= papers.length) {
            return refuse(NO_ROOM);
        }
        paper.charge(today, due, number, taken);
        there.book(due, taken);
        papers[paperCount] = paper;
        paperCount++;
        return accept(paperCount - 1);
    }

    public int paper(int i, int what) {
        Paper paper = paperAt(i);
        if (paper == null) {
            return NONE;
        }
        switch (what) {
            case 0: return paper.port;
            case 1: return paper.kind;
            case 2: return paper.value;
            case 3: return paper.sheets;
            case 4: return paper.day;
            case 5: return paper.charged;
            case 6: return paper.tariff;
            case 7: return paper.allStamps();
            case 8: return isKnown(paper, today) ? knownDay(paper) : NOT;
            default: return NONE;
        }
    }

    public int stamps(int i, int worth) {
        Paper paper = paperAt(i);
        if (paper == null || !isWorth(worth)) {
            return NONE;
        }
        return paper.stampsOf(worth);
    }

    public int about(int port, int what) {
        Port there = portAt(port);
        if (there == null) {
            return NONE;
        }
        switch (what) {
            case 0: return there.days;
            case 1: return there.chest;
            case 2: return there.papers;
            case 3: return there.accountsSent(today);
            default: return isWorth(what - 4) ? there.stampsOf(what - 4) : NONE;
        }
    }

    public int known(int port, int day) {
        if (portAt(port) == null || !isPast(day)) {
            return NONE;
        }
        int many = 0;
        for (int i = 0; i < paperCount; i++) {
            if (isKnownOf(port, i, day)) {
                many++;
            }
        }
        return many;
    }

    public int sum(int port, int day) {
        if (portAt(port) == null || !isPast(day)) {
            return NONE;
        }
        int fees = 0;
        for (int i = 0; i < paperCount; i++) {
            if (isKnownOf(port, i, day)) {
                fees += chargedFor(i);
            }
        }
        return fees;
    }

    public int homes(int i) {
        return homeFee(i);
    }

    public int difference(int port) {
        int all = 0;
        for (int i = 0; i < paperCount; i++) {
            int home = homeFee(i);
            if (home != NO_FEE && isKnownOf(port, i, today)) {
                all += chargedFor(i) - home;
            }
        }
        return all;
    }

    public int unlike(int port) {
        if (portAt(port) == null) {
            return NONE;
        }
        int many = 0;
        for (int i = 0; i < paperCount; i++) {
            // NO_FEE is unlike every fee, so a paper that home can't seal counts, too.
            if (isKnownOf(port, i, today) && chargedFor(i) != homeFee(i)) {
                many++;
            }
        }
        return many;
    }

    public int count(int what) {
        switch (what) {
            case 0: return portCount;
            case 1: return tariffCount;
            case 2: return paperCount;
            case 3: return today;
            case 4: return tape.length;
            default: return NONE;
        }
    }

    public int trouble() {
        return lastTrouble;
    }

    private int refuse(int why) {
        lastTrouble = why;
        return NONE;
    }

    private int accept(int answer) {
        lastTrouble = 0;
        return answer;
    }

    private Port portAt(int number) {
        return number >= 0 && number < portCount && number < ports.length ? ports[number] : null;
    }

    private Tariff tariffAt(int number) {
        return number >= 0 && number < tariffCount && number < tariffs.length ? tariffs[number] : null;
    }

    private Paper paperAt(int number) {
        return number >= 0 && number < paperCount && number < papers.length ? papers[number] : null;
    }

    private static boolean isWorth(int worth) {
        return worth >= 0 && worth < WORTHS.length;
    }

    private static boolean isPaper(int kind, int value, int sheets) {
        return kind >= 0 && kind <= GREATEST_KIND
            && value >= 0 && value <= GREATEST_VALUE
            && sheets >= 1 && sheets <= MOST_SHEETS;
    }

    private boolean isPast(int day) {
        return day >= 0 && day <= today;
    }

    /** The tariff that was told last goes to every port, each as far away as it is. */
    private void sendOut() {
        for (int i = 0; i < portCount; i++) {
            Port there = portAt(i);
            if (there != null) {
                there.send(today + there.days);
            }
        }
    }

    /** The day on which the account that a paper is in comes home. */
    private int knownDay(Paper paper) {
        Port there = portAt(paper.port);
        int far = there == null ? 0 : there.days;
        return accountsBelow(paper.day) * ACCOUNT_DAYS + far;
    }

    private boolean isKnown(Paper paper, int day) {
        return knownDay(paper) <= day;
    }

    private boolean isKnownOf(int port, int i, int day) {
        Paper paper = paperAt(i);
        return paper != null && paper.port == port && isKnown(paper, day);
    }

    private int chargedFor(int i) {
        Paper paper = paperAt(i);
        return paper == null ? 0 : paper.charged;
    }

    private int homeFee(int i) {
        Paper paper = paperAt(i);
        if (paper == null) {
            return NO_FEE;
        }
        for (int number = tariffCount - 1; number >= 0; number--) {
            Tariff told = tariffAt(number);
            if (told != null && told.day <= paper.day) {
                int home = told.feeOf(paper);
                return home == NOT ? NO_FEE : home;
            }
        }
        return NO_FEE;
    }

    /** How many days ahead of a day are account days, counted from day 0. */
    private static int accountsBelow(int day) {
        return day <= 0 ? 0 : (day + ACCOUNT_DAYS - 1) / ACCOUNT_DAYS;
    }

    /** The bytes that wait to be a tariff. */
    private static final class Tape {
        final int[] bytes = new int[TAPE];
        int length = 0;

        void add(int number) {
            for (int shift = 24; shift >= 0; shift -= 8) {
                if (length >= 0 && length < bytes.length) {
                    bytes[length] = (number >>> shift) & 255;
                    length++;
                }
            }
        }

        void clear() {
            length = 0;
        }

        /** A byte; behind the end a blank, which belongs to no token. */
        int at(int place) {
            return place >= 0 && place < length && place < bytes.length ? bytes[place] : BLANK;
        }
    }

    /** The tokens of a text, cut ahead of reading so that reading looks at kinds alone. */
    private static final class Tokens {
        final int[] kinds = new int[TAPE + 1];
        final int[] places = new int[TAPE + 1];
        final int[] numbers = new int[TAPE + 1];
        int many = 0;

        void cut(Tape tape, int end) {
            many = 0;
            int place = 0;
            while (place < end) {
                place = Math.max(place + 1, cutOne(tape, place, end));
            }
            put(END, end, 0);
        }

        /** Cuts what stands at a place and answers the place behind it. */
        private int cutOne(Tape tape, int place, int end) {
            int first = tape.at(place);
            if (isLetter(first)) {
                return cutWord(tape, place, end);
            }
            if (isDigit(first)) {
                return cutNumber(tape, place, end);
            }
            if (first != BLANK) {
                put(SIGNS.indexOf((char) first) >= 0 ? first : NO_TOKEN, place, 0);
            }
            return place + 1;
        }

        private int cutWord(Tape tape, int place, int end) {
            int stop = place;
            while (stop < end && isLetter(tape.at(stop))) {
                stop++;
            }
            put(stop - place > LONGEST_WORD ? NO_TOKEN : wordKind(tape, place, stop), place, 0);
            return stop;
        }

        private int cutNumber(Tape tape, int place, int end) {
            int stop = place;
            int number = 0;
            while (stop < end && isDigit(tape.at(stop))) {
                number = number * 10 + tape.at(stop) - '0';
                stop++;
            }
            put(stop - place > LONGEST_NUMBER ? NO_TOKEN : NUMBER, place, number);
            return stop;
        }

        private void put(int kind, int place, int number) {
            if (many >= 0 && many < kinds.length && many < places.length && many < numbers.length) {
                kinds[many] = kind;
                places[many] = place;
                numbers[many] = number;
                many++;
            }
        }

        private static boolean isLetter(int sign) {
            return sign >= 'a' && sign <= 'z';
        }

        private static boolean isDigit(int sign) {
            return sign >= '0' && sign <= '9';
        }

        private static int wordKind(Tape tape, int place, int stop) {
            if (isWord(tape, place, stop, "fee")) {
                return FEE;
            }
            if (isWord(tape, place, stop, "when")) {
                return WHEN;
            }
            if (isWord(tape, place, stop, "and")) {
                return AND;
            }
            if (isWord(tape, place, stop, "is")) {
                return IS;
            }
            if (isWord(tape, place, stop, "value")) {
                return VALUE;
            }
            if (isWord(tape, place, stop, "sheets")) {
                return SHEETS;
            }
            if (isWord(tape, place, stop, "port")) {
                return PORT;
            }
            return isWord(tape, place, stop, "sealed") ? SEALED : OTHER_WORD;
        }

        private static boolean isWord(Tape tape, int place, int stop, String word) {
            if (stop - place != word.length()) {
                return false;
            }
            for (int i = 0; i < word.length(); i++) {
                if (tape.at(place + i) != word.charAt(i)) {
                    return false;
                }
            }
            return true;
        }
    }

    /** Reads a text from left to right; behind the first fault it goes over nothing more. */
    private static final class Reader {
        int fault = 0;
        int place = 0;
        private final Tokens tokens;
        private int next = 0;
        private int kind = START;
        private int number = 0;

        Reader(Tokens tokens) {
            this.tokens = tokens;
        }

        /** The lines of the text that was cut, behind the last one null; null if it has a fault. */
        Line[] read() {
            fault = 0;
            next = 0;
            kind = START;
            skip(START);
            Line[] lines = new Line[LINES];
            for (int ahead = 0; ahead <= LINES; ahead++) {
                Line line = readLine(ahead);
                if (ahead < lines.length) {
                    lines[ahead] = line;
                }
                if (!skip(';')) {
                    break;
                }
            }
            if (kind != END) {
                blame(FAULT_FORM);
            }
            return fault == 0 ? lines : null;
        }

        private Line readLine(int ahead) {
            if (kind == FEE && ahead >= LINES) {
                blame(FAULT_MANY);
            }
            need(FEE);
            if (kind == NUMBER && number > GREATEST_KIND) {
                blame(FAULT_NUMBER);
            }
            Line line = new Line(need(NUMBER));
            if (skip(WHEN)) {
                readTests(line);
            }
            need(IS);
            readTerms(line);
            return line;
        }

        private void readTests(Line line) {
            for (int ahead = 0; ahead <= TESTS; ahead++) {
                Test test = readTest(ahead);
                if (ahead < line.tests.length) {
                    line.tests[ahead] = test;
                }
                if (!skip(AND)) {
                    break;
                }
            }
        }

        private Test readTest(int ahead) {
            if (isName(kind) && ahead >= TESTS) {
                blame(FAULT_MANY);
            }
            int name = needName();
            int sign = kind;
            if (sign != '<' && sign != '>' && sign != '=') {
                blame(FAULT_FORM);
            }
            skip(sign);
            return new Test(name, sign, need(NUMBER));
        }

        private void readTerms(Line line) {
            for (int ahead = 0; ahead <= TERMS; ahead++) {
                Term term = readTerm(ahead);
                if (ahead < line.terms.length) {
                    line.terms[ahead] = term;
                }
                if (!skip('+')) {
                    break;
                }
            }
        }

        private Term readTerm(int ahead) {
            boolean numbered = kind == NUMBER;
            if ((numbered || isName(kind)) && ahead >= TERMS) {
                blame(FAULT_MANY);
            }
            int factor = numbered ? need(NUMBER) : 1;
            if (numbered && !skip('*')) {
                return new Term(factor, UNIT, 1);
            }
            int name = needName();
            if (!skip('/')) {
                return new Term(factor, name, 1);
            }
            if (kind == NUMBER && number == 0) {
                blame(FAULT_NUMBER);
            }
            return new Term(factor, name, need(NUMBER));
        }

        private int needName() {
            int name = kind;
            if (name == OTHER_WORD) {
                blame(FAULT_NAME);
            }
            if (!isName(name)) {
                blame(FAULT_FORM);
            }
            skip(name);
            return name;
        }

        /** Goes over a token that must stand here; the number of it. */
        private int need(int wanted) {
            int value = number;
            if (!skip(wanted)) {
                blame(FAULT_FORM);
            }
            return value;
        }

        /** Goes over a token if it stands here; behind a fault over none, so that place stays at it. */
        private boolean skip(int wanted) {
            if (fault != 0 || kind != wanted) {
                return false;
            }
            if (next >= 0 && next < tokens.kinds.length && next < tokens.places.length
                && next < tokens.numbers.length) {
                kind = tokens.kinds[next];
                place = tokens.places[next];
                number = tokens.numbers[next];
                next++;
            }
            return true;
        }

        /** Only the first fault of a text counts. */
        private void blame(int which) {
            if (fault == 0) {
                fault = which;
            }
        }

        private static boolean isName(int kind) {
            return kind >= VALUE && kind <= SEALED;
        }
    }

    private static final class Tariff {
        final int day;
        final Line[] lines;

        Tariff(int day, Line[] lines) {
            this.day = day;
            this.lines = lines;
        }

        int feeOf(Paper paper) {
            for (int i = 0; i < lines.length; i++) {
                Line line = lines[i];
                if (line != null && line.fits(paper)) {
                    return line.total(paper);
                }
            }
            return NOT;
        }
    }

    /** A line of a tariff; behind its last test and its last term there are nulls. */
    private static final class Line {
        final int kind;
        final Test[] tests = new Test[TESTS];
        final Term[] terms = new Term[TERMS];

        Line(int kind) {
            this.kind = kind;
        }

        boolean fits(Paper paper) {
            if (paper.kind != kind) {
                return false;
            }
            for (int i = 0; i < tests.length; i++) {
                Test test = tests[i];
                if (test != null && !test.holds(paper)) {
                    return false;
                }
            }
            return true;
        }

        int total(Paper paper) {
            int all = 0;
            for (int i = 0; i < terms.length; i++) {
                Term term = terms[i];
                if (term != null) {
                    all += term.amount(paper);
                }
            }
            return Math.min(all, GREATEST_FEE);
        }
    }

    private static final class Test {
        final int name;
        final int sign;
        final int number;

        Test(int name, int sign, int number) {
            this.name = name;
            this.sign = sign;
            this.number = number;
        }

        boolean holds(Paper paper) {
            int measure = paper.measure(name);
            if (sign == '<') {
                return measure < number;
            }
            return sign == '>' ? measure > number : measure == number;
        }
    }

    private static final class Term {
        final int factor;
        final int name;
        final int divisor;

        Term(int factor, int name, int divisor) {
            this.factor = factor;
            this.name = name;
            this.divisor = divisor;
        }

        int amount(Paper paper) {
            int whole = factor * paper.measure(name);
            return divisor > 0 ? whole / divisor : whole;
        }
    }

    private static final class Paper {
        final int port;
        final int kind;
        final int value;
        final int sheets;
        /** How many papers its port sealed ahead of it. */
        final int ahead;
        int day = 0;
        int charged = 0;
        int tariff = 0;
        int[] taken = null;

        Paper(int port, int kind, int value, int sheets, int ahead) {
            this.port = port;
            this.kind = kind;
            this.value = value;
            this.sheets = sheets;
            this.ahead = ahead;
        }

        void charge(int onDay, int due, int byTariff, int[] stamps) {
            day = onDay;
            charged = due;
            tariff = byTariff;
            taken = stamps;
        }

        int measure(int name) {
            switch (name) {
                case VALUE: return value;
                case SHEETS: return sheets;
                case PORT: return port;
                case SEALED: return ahead;
                default: return 1;
            }
        }

        int stampsOf(int worth) {
            return taken != null && worth >= 0 && worth < taken.length ? taken[worth] : 0;
        }

        int allStamps() {
            int all = 0;
            for (int worth = 0; worth < WORTHS.length; worth++) {
                all += stampsOf(worth);
            }
            return all;
        }
    }

    /**
     * A port and what is sent to it. Nothing is moved as days go: the days on which something comes
     * follow from when it was sent and from what is lost, and what came can't be lost any more.
     */
    private static final class Port {
        final int days;
        final int opened;
        final int[] stock = new int[WORTHS.length];
        /** The day on which what was sent at first comes, if it isn't lost. */
        final int[] firstDays = new int[TARIFFS];
        final boolean[] losses = new boolean[TARIFFS];
        int sent = 0;
        int chest = 0;
        int papers = 0;

        Port(int days, int opened) {
            this.days = days;
            this.opened = opened;
        }

        void send(int comesOn) {
            if (sent >= 0 && sent < firstDays.length) {
                firstDays[sent] = comesOn;
                sent++;
            }
        }

        boolean wasSent(int number) {
            return number >= 0 && number < sent && number < firstDays.length && number < losses.length;
        }

        boolean lose(int number, int today) {
            if (!wasSent(number) || losses[number] || firstDays[number] <= today) {
                return false;
            }
            losses[number] = true;
            return true;
        }

        /**
         * The day on which a number was asked for, NOT if it wasn't by today. What isn't lost comes
         * in the order of the numbers, and what is sent again comes behind what made the port ask:
         * so the next number that isn't lost is the first greater one to come.
         */
        int askDay(int number, int today) {
            if (!wasSent(number) || !losses[number]) {
                return NOT;
            }
            for (int greater = number + 1; greater < sent; greater++) {
                if (wasSent(greater) && !losses[greater]) {
                    return firstDays[greater] <= today ? firstDays[greater] : NOT;
                }
            }
            return NOT;
        }

        /** The day on which a number came, NOT if it hasn't by today. */
        int comeDay(int number, int today) {
            if (!wasSent(number)) {
                return NOT;
            }
            int day = firstDays[number];
            if (losses[number]) {
                int ask = askDay(number, today);
                if (ask == NOT) {
                    return NOT;
                }
                day = ask + 2 * days;
            }
            return day <= today ? day : NOT;
        }

        int inForce(int today) {
            int number = 0;
            while (number < sent && comeDay(number, today) != NOT) {
                number++;
            }
            return number == 0 ? NOT : number - 1;
        }

        int onTheWay(int what, int today) {
            if (what == 2) {
                return accountsSent(today) - accountsCome(today);
            }
            int many = 0;
            for (int number = 0; number < sent; number++) {
                if (what == 0 ? isOut(number, today) : isAskOut(number, today)) {
                    many++;
                }
            }
            return many;
        }

        private boolean isOut(int number, int today) {
            if (comeDay(number, today) != NOT || !wasSent(number)) {
                return false;
            }
            int ask = askDay(number, today);
            return !losses[number] || (ask != NOT && ask + days <= today);
        }

        private boolean isAskOut(int number, int today) {
            int ask = askDay(number, today);
            return ask != NOT && ask + days > today;
        }

        /** An account goes as its day is over, so today's isn't sent yet. */
        int accountsSent(int today) {
            return accountsBelow(today) - accountsBelow(opened);
        }

        private int accountsCome(int today) {
            return Math.max(0, accountsBelow(today - days + 1) - accountsBelow(opened));
        }

        int stampsOf(int worth) {
            return worth >= 0 && worth < stock.length ? stock[worth] : 0;
        }

        void addStamps(int worth, int many) {
            if (worth >= 0 && worth < stock.length) {
                stock[worth] += many;
            }
        }

        void book(int due, int[] taken) {
            chest += due;
            papers++;
            for (int worth = 0; worth < taken.length; worth++) {
                addStamps(worth, -taken[worth]);
            }
        }
    }

    /** Finds the fewest stamps that make a fee. */
    private static final class Change {
        final int[] tried = new int[WORTHS.length];
        int[] best = null;
        int bestMany = 0;

        /** How many of each worth; null if no stamps make the fee. */
        int[] fewest(int[] stock, int fee) {
            best = null;
            bestMany = 0;
            tryWorth(this, stock, WORTHS.length - 1, fee, 0);
            return best;
        }

        private void keepIfFewer(int many) {
            if (best == null || many < bestMany) {
                best = tried.clone();
                bestMany = many;
            }
        }

        /** Tries more of the greater worths first: of as few stamps what is found first stays. */
        private static void tryWorth(Change change, int[] stock, int worth, int rest, int many) {
            if (worth < 0) {
                if (rest == 0) {
                    change.keepIfFewer(many);
                }
                return;
            }
            if (worth >= stock.length || worth >= WORTHS.length || worth >= SPARED.length
                || worth >= change.tried.length || WORTHS[worth] <= 0) {
                return;
            }
            int most = Math.min(stock[worth], rest / WORTHS[worth]);
            for (int taken = most; taken >= Math.max(0, most - SPARED[worth]); taken--) {
                change.tried[worth] = taken;
                tryWorth(change, stock, worth - 1, rest - taken * WORTHS[worth], many + taken);
            }
        }
    }
}
