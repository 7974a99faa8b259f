/** The edges of the form of a text and of its faults (Terms II), and of promises 3 to 6. */
public final class TextEdgesTest {
    private static final Check CHECK = new Check("TextEdgesTest");
    private static final int BLANKS = 0x20202020;

    /** A text that breaks off, and what may stand behind it; complete says that it may end there. */
    private record Broken(String text, String words, boolean name, boolean number, String signs, boolean complete) {
        boolean takes(String token) {
            char first = token.charAt(0);
            if (Character.isDigit(first)) {
                return number;
            }
            return signs.contains(token) || (" " + words + " ").contains(" " + token + " ") || name && isName(token);
        }

        /** Whether the text may end behind the number or name that it takes. */
        boolean endsBehind(String token) {
            boolean sums = text.endsWith("is") || text.endsWith("+") || text.endsWith("*") || text.endsWith("/");
            return sums && (Character.isDigit(token.charAt(0)) || isName(token));
        }
    }

    private static final Broken[] BROKEN = {
        new Broken("", "fee", false, false, "", false),
        new Broken("fee", "", false, true, "", false),
        new Broken("fee 1", "when is", false, false, "", false),
        new Broken("fee 1 when", "", true, false, "", false),
        new Broken("fee 1 when port", "", false, false, "<>=", false),
        new Broken("fee 1 when port <", "", false, true, "", false),
        new Broken("fee 1 when port >", "", false, true, "", false),
        new Broken("fee 1 when port =", "", false, true, "", false),
        new Broken("fee 1 when port < 1", "and is", false, false, "", false),
        new Broken("fee 1 when port < 1 and", "", true, false, "", false),
        new Broken("fee 1 is", "", true, true, "", false),
        new Broken("fee 1 is 1", "", false, false, "*+;", true),
        new Broken("fee 1 is 1 *", "", true, false, "", false),
        new Broken("fee 1 is 1 * port", "", false, false, "/+;", true),
        new Broken("fee 1 is 1 * port /", "", false, true, "", false),
        new Broken("fee 1 is 1 * port / 1", "", false, false, "+;", true),
        new Broken("fee 1 is port", "", false, false, "/+;", true),
        new Broken("fee 1 is port /", "", false, true, "", false),
        new Broken("fee 1 is port / 1", "", false, false, "+;", true),
        new Broken("fee 1 is 1 +", "", true, true, "", false),
        new Broken("fee 1 is 1 ;", "fee", false, false, "", false)
    };

    public static void main(String[] args) {
        promise3Tape();
        promise3Full();
        promise3HighestFirst();
        promise4FirstBytes();
        promise4TokensEndAtN();
        promise4NumberOfBytes();
        promise4TapeBehind();
        promise4Order();
        promise4Numbers();
        termsIIWholeTape();
        termsIIBlanks();
        termsIIBlanksPart();
        termsIIWords();
        termsIINumbers();
        termsIIEveryByte();
        termsIIEveryWord();
        termsIITheEnd();
        termsIILongTokens();
        termsIINoName();
        termsIIKindAbove();
        termsIIDivisionByNothing();
        termsIILines();
        termsIITests();
        termsIITerms();
        termsIIManyIfItMayStand();
        termsIIFirstFromTheLeft();
        promise5Latest();
        promise6Place();
        CHECK.end();
    }

    private static boolean isName(String token) {
        return token.equals("value") || token.equals("sheets") || token.equals("port") || token.equals("sealed");
    }

    private static void sound(String text) {
        ConsulDesk desk = new ConsulDesk();
        CHECK.due("\"" + text + "\"", Desks.tell(desk, text), 0);
        CHECK.due("trouble() of \"" + text + "\"", desk.trouble(), 0);
        CHECK.due("fault() of \"" + text + "\"", desk.fault(), 0);
        CHECK.due("where() of \"" + text + "\"", desk.where(), -1);
        CHECK.due("tariffs by \"" + text + "\"", desk.count(1), 1);
    }

    private static void faulty(String text, int fault, int where) {
        ConsulDesk desk = new ConsulDesk();
        CHECK.due("\"" + text + "\"", Desks.tell(desk, text), -1);
        CHECK.due("trouble() of \"" + text + "\"", desk.trouble(), 4);
        CHECK.due("fault() of \"" + text + "\"", desk.fault(), fault);
        CHECK.due("where() of \"" + text + "\"", desk.where(), where);
        CHECK.due("tariffs by \"" + text + "\"", desk.count(1), 0);
    }

    private static int feedBlanks(ConsulDesk desk) {
        return desk.feed(BLANKS, BLANKS, BLANKS, BLANKS, BLANKS);
    }

    private static void promise3Tape() {
        CHECK.of("Promise 3", "Twenty bytes come behind THE TAPE, of each number the highest first: how many it has");
        ConsulDesk desk = new ConsulDesk();
        CHECK.due("count(4) at first", desk.count(4), 0);
        for (int i = 1; i <= 15; i++) {
            CHECK.due("feed no. " + i, feedBlanks(desk), 20 * i);
            CHECK.due("count(4)", desk.count(4), 20 * i);
        }
    }

    private static void promise3Full() {
        CHECK.of("Promise 3", "NONE, and none comes, if there would be more than 300.");
        ConsulDesk desk = new ConsulDesk();
        Desks.feed(desk, "fee 1 is 7" + " ".repeat(289) + ";");
        CHECK.due("count(4)", desk.count(4), 300);
        CHECK.due("a 16th feed", desk.feed(0, 0, 0, 0, 0), -1);
        CHECK.due("count(4) behind", desk.count(4), 300);
        CHECK.due("a 17th feed", desk.feed(-1, -1, -1, -1, -1), -1);
        CHECK.due("none came: still sound", desk.tariff(299), 0);
        desk.port(1);
        CHECK.due("none came: its fee", desk.fee(0, 0, 1, 0, 1), 7);
        CHECK.due("room again", feedBlanks(desk), 20);
    }

    private static void promise3HighestFirst() {
        CHECK.of("Promise 3", "of each number the highest first");
        for (int at = 0; at < 20; at++) {
            int[] words = {BLANKS, BLANKS, BLANKS, BLANKS, BLANKS};
            words[at / 4] ^= (' ' ^ 255) << (24 - 8 * (at % 4));
            ConsulDesk desk = new ConsulDesk();
            desk.feed(words[0], words[1], words[2], words[3], words[4]);
            CHECK.due("a byte 255 at " + at, desk.tariff(20), -1);
            CHECK.due("where() of 255 at " + at, desk.where(), at);
        }
    }

    private static void promise4FirstBytes() {
        CHECK.of("Promise 4", "The first n bytes of THE TAPE (it is empty then) are a TARIFF");
        String text = "fee 1 is 123;fee 2 is sealed";
        for (int n = 0; n <= text.length(); n++) {
            ConsulDesk desk = new ConsulDesk();
            Desks.feed(desk, text);
            boolean sound = n == 10 || n == 11 || n == 12 || n == text.length();
            CHECK.due("tariff(" + n + ")", desk.tariff(n), sound ? 0 : -1);
            CHECK.due("trouble() of " + n, desk.trouble(), sound ? 0 : 4);
            CHECK.due("count(4) of " + n, desk.count(4), 0);
        }
    }

    /** A token that goes on behind the first n bytes ends with them. */
    private static void promise4TokensEndAtN() {
        CHECK.of("Promise 4", "The first n bytes of THE TAPE");
        int[][] digits = {{10, 1}, {11, 12}, {12, 123}};
        for (int[] d : digits) {
            cutAt("fee 1 is 1234", d[0], d[1]);
        }
        cutAt("fee 1 is values", 14, 77);
        cutAt("fee 1 is value/1234", 16, 77);
        cutAt("fee 1 is value/1234", 17, 6);
        ConsulDesk desk = new ConsulDesk();
        Desks.feed(desk, "fee 1 is value");
        CHECK.due("a word that ends too soon", desk.tariff(13), -1);
        CHECK.due("its fault", desk.fault(), 2);
    }

    private static void cutAt(String text, int n, int want) {
        ConsulDesk desk = new ConsulDesk();
        desk.port(1);
        Desks.feed(desk, text);
        CHECK.due("tariff(" + n + ") of \"" + text + "\"", desk.tariff(n), 0);
        CHECK.due("its fee", desk.fee(0, 0, 1, 77, 1), want);
    }

    private static void promise4NumberOfBytes() {
        CHECK.of("Promise 4", "NONE: 2 (THE TAPE stays)");
        Refusal empty = new Refusal(CHECK, d -> { });
        for (int n : new int[] {-1, 1, 300, 301, Integer.MIN_VALUE, Integer.MAX_VALUE}) {
            empty.due("tariff(" + n + ") of none", d -> d.tariff(n), 2, 0);
        }
        Refusal one = new Refusal(CHECK, d -> Desks.feed(d, "fee 1 is 7"));
        for (int n : new int[] {-1, 21, 40, Integer.MIN_VALUE, Integer.MAX_VALUE}) {
            one.due("tariff(" + n + ") of 20", d -> d.tariff(n), 2, 20);
        }
        Refusal full = new Refusal(CHECK, d -> Desks.feed(d, " ".repeat(300)));
        full.due("tariff(301) of 300", d -> d.tariff(301), 2, 300);
        ConsulDesk desk = new ConsulDesk();
        Desks.feed(desk, "fee 1 is 7");
        desk.tariff(21);
        CHECK.due("its bytes stay, too", desk.tariff(20), 0);
        desk.port(1);
        CHECK.due("fee", desk.fee(0, 0, 1, 0, 1), 7);
    }

    private static void promise4TapeBehind() {
        CHECK.of("Promise 4", "(it is empty then)");
        new Refusal(CHECK, d -> { }).due("a fault", d -> Desks.tell(d, "fee"), 4, 0);
        new Refusal(CHECK, d -> Desks.feed(d, " ".repeat(300))).due("tariff(0) of 300", d -> d.tariff(0), 4, 0);
        ConsulDesk desk = new ConsulDesk();
        Desks.feed(desk, "fee 1 is 1;fee 2 is 2");
        CHECK.due("tariff(10)", desk.tariff(10), 0);
        CHECK.due("tariff(1) of an empty tape", desk.tariff(1), -1);
        CHECK.due("trouble()", desk.trouble(), 2);
    }

    private static void promise4Order() {
        CHECK.of("Promise 4", "NONE: 2 (THE TAPE stays); 4; 3.");
        Refusal refusal = new Refusal(CHECK, d -> {
            for (int i = 0; i < 30; i++) {
                Desks.tell(d, "fee 1 is 1");
            }
            Desks.feed(d, "fee 1 is 7");
        });
        refusal.due("tariff(21), a 31st", d -> d.tariff(21), 2, 20);
        refusal.due("tariff(9), a 31st", d -> d.tariff(9), 4, 0);
        refusal.due("tariff(10), a 31st", d -> d.tariff(10), 3, 0);
    }

    private static void promise4Numbers() {
        CHECK.of("Promise 4", "told at home and sent TODAY: its number.");
        ConsulDesk desk = new ConsulDesk();
        desk.port(2);
        CHECK.due("the first", Desks.tell(desk, "fee 1 is 1"), 0);
        CHECK.due("one with a fault", Desks.tell(desk, "fee 1 is"), -1);
        CHECK.due("the next", Desks.tell(desk, "fee 1 is 2"), 1);
        desk.pass(2);
        CHECK.due("the first came", desk.came(0, 0), 2);
        CHECK.due("the next came", desk.came(0, 1), 2);
        CHECK.due("nothing came of the fault", desk.came(0, 2), -1);
    }

    private static void termsIIWholeTape() {
        CHECK.of("Terms II", "(THE TAPE has 300 bytes;");
        String text = " ".repeat(290) + "fee 1 is 7";
        sound(text);
        ConsulDesk desk = new ConsulDesk();
        Desks.feed(desk, text);
        CHECK.due("without the 300th byte", desk.tariff(299), -1);
        CHECK.due("where()", desk.where(), 299);
        faulty(" ".repeat(299) + "?", 1, 299);
        faulty(" ".repeat(300), 1, 300);
        faulty("fee 1 is 1" + " ".repeat(289) + ";", 1, 300);
        sound("fee 1 is 1" + " ".repeat(290));
        sound("fee1when value<999is 1+2" + ";fee1when value<999is 1+2".repeat(11));
    }

    private static void termsIIBlanks() {
        CHECK.of("Terms II", "blanks, 32, part TOKENS and mean nothing else");
        sound("fee1when port<1and port>2and port=3is 1+2*port/3+port/4;fee2is 5");
        sound("  fee  1  when  port  <  1  and  port  >  2  is  1  +  2  *  port  /  3  ;  fee  2  is  5  ");
        for (int other : new int[] {0, 9, 10, 13, 31, 33, 127, 160, 255}) {
            faulty("fee" + (char) other + "1 is 1", 1, 3);
            faulty("fee 1 is 1" + (char) other, 1, 10);
        }
    }

    private static void termsIIBlanksPart() {
        CHECK.of("Terms II", "that stand together");
        faulty("f ee 1 is 1", 1, 0);
        faulty("fee 1 is val ue", 2, 9);
        faulty("fee 1 is 1 2", 1, 11);
        faulty("fee 1 when port < 1 2 is 1", 1, 20);
        faulty("feefee 1 is 1", 1, 0);
        faulty("fee 1 isport", 1, 6);
        faulty("fee 1 when port<1andport<1 is 1", 1, 17);
    }

    private static void termsIIWords() {
        CHECK.of("Terms II", "WORDS of 1 to 8 small letters");
        faulty("fee 1 is a", 2, 9);
        faulty("fee 1 is z", 2, 9);
        faulty("fee 1 is abcdefg", 2, 9);
        faulty("fee 1 is abcdefgh", 2, 9);
        faulty("fee 1 is abcdefghi", 1, 9);
        faulty("fee 1 is " + "z".repeat(291), 1, 9);
        faulty("fee 1 is `", 1, 9);
        faulty("fee 1 is {", 1, 9);
        faulty("fee 1 is A", 1, 9);
        faulty("fee 1 is Z", 1, 9);
        faulty("fee 1 is a`", 2, 9);
        faulty("fee 1 is value{", 1, 14);
        faulty("fee 1 is VALUE", 1, 9);
        faulty("fee 1 is vAlue", 2, 9);
    }

    private static void termsIINumbers() {
        CHECK.of("Terms II", "NUMBERS of 1 to 3 digits that do");
        for (String number : new String[] {"0", "9", "00", "99", "000", "999", "007"}) {
            ConsulDesk desk = new ConsulDesk();
            desk.port(1);
            CHECK.due("fee 1 is " + number, Desks.tell(desk, "fee 1 is " + number), 0);
            CHECK.due("its fee", desk.fee(0, 0, 1, 0, 1), Integer.parseInt(number));
        }
        for (String number : new String[] {"0000", "1000", "9999", "00001", "9".repeat(291)}) {
            faulty("fee 1 is " + number, 1, 9);
        }
        faulty("fee 1 is :", 1, 9);
        faulty("fee 1 is /", 1, 9);
        faulty("fee 1 is 1:", 1, 10);
    }

    /** What is due of a text that breaks off and a token behind it. */
    private static void behind(Broken broken, String token) {
        String text = broken.text + " " + token;
        int place = text.length() - token.length();
        boolean divides = broken.text.endsWith("/");
        if (!broken.takes(token)) {
            boolean word = token.charAt(0) >= 'a' && token.charAt(0) <= 'z';
            boolean keyword = token.equals("fee") || token.equals("when") || token.equals("and") || token.equals("is");
            faulty(text, broken.name && word && !keyword ? 2 : 1, place);
        } else if (divides && token.equals("0")) {
            faulty(text, 3, place);
        } else if (broken.endsBehind(token)) {
            sound(text);
        } else {
            faulty(text, 1, text.length());
        }
    }

    private static void termsIIEveryByte() {
        CHECK.of("Terms II", "1 FORM: the first byte that begins no TOKEN, or TOKEN with which no text goes on");
        for (Broken broken : BROKEN) {
            for (int sign = 0; sign < 256; sign++) {
                if (sign != ' ') {
                    behind(broken, String.valueOf((char) sign));
                }
            }
        }
    }

    private static void termsIIEveryWord() {
        CHECK.of("Terms II", "TOKEN with which no text goes on");
        String[] words = {"fee", "when", "and", "is", "value", "sheets", "port", "sealed", "zome", "values", "valu",
            "feee", "fe", "tee", "then", "end", "us", "falue", "cheets", "sort", "healed", "sealer", "ports", "an",
            "whe", "iss", "kind", "abcdefgh"};
        for (Broken broken : BROKEN) {
            for (String word : words) {
                behind(broken, word);
            }
        }
    }

    private static void termsIITheEnd() {
        CHECK.of("Terms II", "(the end: its place)");
        for (Broken broken : BROKEN) {
            for (int blanks = 0; blanks < 3; blanks++) {
                String text = broken.text + " ".repeat(blanks);
                if (broken.complete) {
                    sound(text);
                } else {
                    faulty(text, 1, text.length());
                }
            }
        }
        ConsulDesk desk = new ConsulDesk();
        Desks.feed(desk, "fee 1 is 1");
        CHECK.due("tariff(8) of more", desk.tariff(8), -1);
        CHECK.due("the end is at n", desk.where(), 8);
    }

    private static void termsIILongTokens() {
        CHECK.of("Terms II", "the first byte that begins no TOKEN");
        for (Broken broken : BROKEN) {
            faulty(broken.text + " abcdefghi", 1, broken.text.length() + 1);
            faulty(broken.text + " valuevalue", 1, broken.text.length() + 1);
            faulty(broken.text + " 1000", 1, broken.text.length() + 1);
            faulty(broken.text + " 0000", 1, broken.text.length() + 1);
        }
    }

    private static void termsIINoName() {
        CHECK.of("Terms II",
            "2 a WORD that is no NAME where one is to be (fee, when, and, is: there they are 1); at it.");
        String[] ahead = {"fee 1 when ", "fee 1 when port<1 and ", "fee 1 is ", "fee 1 is 1+", "fee 1 is 2*"};
        for (String text : ahead) {
            faulty(text + "zome", 2, text.length());
            faulty(text + "zome<1 is 1", 2, text.length());
            for (String keyword : new String[] {"fee", "when", "and", "is"}) {
                faulty(text + keyword, 1, text.length());
            }
        }
        faulty("zome", 1, 0);
        faulty("fee zome", 1, 4);
        faulty("fee 1 zome", 1, 6);
        faulty("fee 1 when port<zome", 1, 16);
        faulty("fee 1 is port/zome", 1, 14);
    }

    private static void termsIIKindAbove() {
        CHECK.of("Terms II", "3 a KIND above 9, a division by 0; at the NUMBER.");
        sound("fee 0 is 1");
        sound("fee 9 is 1");
        sound("fee 09 is 1");
        sound("fee 009 is 1");
        faulty("fee 10 is 1", 3, 4);
        faulty("fee 010 is 1", 3, 4);
        faulty("fee 99 is 1", 3, 4);
        faulty("fee 999 is 1", 3, 4);
        faulty("fee 1000 is 1", 1, 4);
        faulty("fee   10", 3, 6);
        faulty("fee 1 is 1;fee 10 is 1", 3, 15);
        sound("fee 9 when value<10 is 10");
    }

    private static void termsIIDivisionByNothing() {
        CHECK.of("Terms II", "a division by 0; at the NUMBER.");
        sound("fee 1 is value/1");
        sound("fee 1 is value/001");
        sound("fee 1 is 0*value/1");
        faulty("fee 1 is value/0", 3, 15);
        faulty("fee 1 is value/  00", 3, 17);
        faulty("fee 1 is value/000", 3, 15);
        faulty("fee 1 is value/0000", 1, 15);
        faulty("fee 1 is 2*value/0", 3, 17);
        faulty("fee 1 is 0*value/0", 3, 17);
        faulty("fee 1 is 1+value/0+1", 3, 17);
        sound("fee 1 when value<0 and value>0 and value=0 is 0");
    }

    private static final String LINES_12 = "fee1is1" + ";fee1is1".repeat(11);
    private static final String TESTS_4 = "fee 1 when port<1 and port<2 and port<3 and port<4";
    private static final String TERMS_4 = "fee 1 is 1+value+2*value+value/3";

    private static void termsIILines() {
        CHECK.of("Terms II", "4 MANY: a 13th LINE");
        sound("fee1is1" + ";fee1is1".repeat(10));
        sound(LINES_12);
        faulty(LINES_12 + ";fee1is1", 4, 96);
        faulty(LINES_12 + " ; fee1is1", 4, 98);
        faulty(LINES_12 + ";fee", 4, 96);
        faulty(LINES_12 + ";fee10", 4, 96);
        faulty(LINES_12 + ";fee1is1;fee1is1", 4, 96);
        faulty(LINES_12 + ";fee1is1".repeat(25), 4, 96);
    }

    private static void termsIITests() {
        CHECK.of("Terms II", "a fifth TEST");
        sound("fee 1 when port<1 and port<2 and port<3 is 1");
        sound(TESTS_4 + " is 1");
        for (String name : new String[] {"value", "sheets", "port", "sealed"}) {
            faulty(TESTS_4 + " and " + name + "<1 is 1", 4, 55);
            faulty(TESTS_4 + " and " + name, 4, 55);
        }
        sound(TESTS_4 + " is 1;" + TESTS_4 + " is 1");
        faulty("fee 1 is 1;" + TESTS_4 + " and port<5 is 1", 4, 66);
    }

    private static void termsIITerms() {
        CHECK.of("Terms II", "a fifth TERM");
        sound("fee 1 is 1+value+2*value");
        sound(TERMS_4);
        for (String term : new String[] {"0", "999", "5*value", "value", "sheets", "port", "sealed", "value/0"}) {
            faulty(TERMS_4 + "+" + term, 4, 33);
            faulty(TERMS_4 + " +  " + term, 4, 36);
        }
        sound(TERMS_4 + ";" + TERMS_4);
        faulty("fee 1 is 1;" + TERMS_4 + "+1", 4, 44);
    }

    private static void termsIIManyIfItMayStand() {
        CHECK.of("Terms II", "at its first TOKEN, if it may stand there (else 1; 2 first).");
        for (String token : new String[] {"when", "is", "value", "zome", "1", "10", ";", "+", "?", "abcdefghi"}) {
            faulty(LINES_12 + ";" + token, 1, 96);
        }
        faulty(LINES_12 + ";", 1, 96);
        for (String token : new String[] {"fee", "when", "and", "is", "1", "999", "<", ";", "?", "abcdefghi"}) {
            faulty(TESTS_4 + " and " + token, 1, 55);
        }
        faulty(TESTS_4 + " and zome<1 is 1", 2, 55);
        faulty(TESTS_4 + " and ", 1, 55);
        for (String token : new String[] {"fee", "when", "and", "is", "1000", "+", "*", ";", "?", "abcdefghi"}) {
            faulty(TERMS_4 + "+" + token, 1, 33);
        }
        faulty(TERMS_4 + "+zome", 2, 33);
        faulty(TERMS_4 + "+", 1, 33);
    }

    private static void termsIIFirstFromTheLeft() {
        CHECK.of("Terms II", "FAULTS, the first that is met from the left, of one place the least number");
        faulty("? fee 10 is zome", 1, 0);
        faulty("fee 10 is zome ?", 3, 4);
        faulty("fee 1 is zome/0 ?", 2, 9);
        faulty("fee 1 is value/0 ?", 3, 15);
        faulty(LINES_12 + ";fee10is?", 4, 96);
        faulty(TESTS_4 + " and port<1 is zome", 4, 55);
        faulty(TESTS_4 + " ? and port<1", 1, 51);
        faulty(TERMS_4 + "+value/0", 4, 33);
        faulty("fee 1 is value/0+1+2+3+4", 3, 15);
    }

    private static void promise5Latest() {
        CHECK.of("Promise 5", "The FAULT of the latest tariff() not refused by 2; 0 without one.");
        ConsulDesk desk = new ConsulDesk();
        CHECK.due("ahead of any", desk.fault(), 0);
        desk.tariff(1);
        CHECK.due("behind one refused by 2 alone", desk.fault(), 0);
        String[] texts = {"fee", "fee 1 is zome", "fee 10", "fee 1 is 1+2+3+4+5"};
        for (int fault = 1; fault <= 4; fault++) {
            Desks.tell(desk, texts[fault - 1]);
            CHECK.due("of \"" + texts[fault - 1] + "\"", desk.fault(), fault);
            desk.tariff(-1);
            desk.tariff(1);
            CHECK.due("behind two refused by 2", desk.fault(), fault);
            desk.port(0);
            desk.port(1);
            CHECK.due("behind other calls", desk.fault(), fault);
        }
        Desks.tell(desk, "fee 1 is 1");
        CHECK.due("of a sound one", desk.fault(), 0);
        for (int i = 1; i < 30; i++) {
            Desks.tell(desk, "fee 1 is 1");
        }
        Desks.tell(desk, "fee");
        CHECK.due("of one with a fault, a 31st", desk.fault(), 1);
        Desks.tell(desk, "fee 1 is 1");
        CHECK.due("of one refused by 3", desk.fault(), 0);
    }

    private static void promise6Place() {
        CHECK.of("Promise 6", "Its place, if the latest call that may be refused was by 4; NONE else.");
        where("port(0)", d -> d.port(0), -1);
        where("port(1)", d -> d.port(1), -1);
        where("tariff(1), by 2", d -> d.tariff(1), -1);
        where("a sound tariff", d -> Desks.tell(d, "fee 1 is 1"), -1);
        where("another fault", d -> Desks.tell(d, "fee 1 is ?"), 9);
        where("a fault at 0", d -> Desks.tell(d, "?"), 0);
        where("an empty text", d -> d.tariff(0), 0);
        where("lost(0, 0)", d -> d.lost(0, 0) ? 1 : 0, -1);
        where("pass(0)", d -> d.pass(0), -1);
        where("pass(1)", d -> d.pass(1), -1);
        where("stock(0, 0, 1)", d -> d.stock(0, 0, 1), -1);
        where("fee(0, 0, 1, 1, 1)", d -> d.fee(0, 0, 1, 1, 1), -1);
        where("seal(0, 1, 1, 1)", d -> d.seal(0, 1, 1, 1), -1);
        where("count(4)", d -> d.count(4), 4);
        where("where()", d -> d.where(), 4);
        where("fault()", d -> d.fault(), 4);
        where("trouble()", d -> d.trouble(), 4);
    }

    private static void where(String name, Refusal.Call call, int want) {
        ConsulDesk desk = new ConsulDesk();
        Desks.tell(desk, "fee 10");
        CHECK.due("where() of a fault", desk.where(), 4);
        call.on(desk);
        CHECK.due("where() behind " + name, desk.where(), want);
    }
}
