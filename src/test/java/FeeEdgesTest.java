/** The edges of Terms II where it says what a fee is, and of promise 14. */
public final class FeeEdgesTest {
    private static final Check CHECK = new Check("FeeEdgesTest");

    public static void main(String[] args) {
        termsIIKind();
        termsIIValue();
        termsIISheets();
        termsIIPort();
        termsIISealed();
        termsIITests();
        termsIINumbersOfTests();
        termsIIDivided();
        termsIIFirstLine();
        termsIIAllTests();
        termsIIAtMost();
        termsIIGreatestSums();
        termsIIWithoutLine();
        promise14NoneSuch();
        promise14Order();
        promise14Today();
        CHECK.end();
    }

    private static ConsulDesk told(String text) {
        ConsulDesk desk = new ConsulDesk();
        desk.port(1);
        CHECK.due("\"" + text + "\"", Desks.tell(desk, text), 0);
        return desk;
    }

    private static void fee(String text, int value, int want) {
        ConsulDesk desk = told(text);
        CHECK.due("\"" + text + "\" of value " + value, desk.fee(0, 0, 1, value, 1), want);
        CHECK.due("trouble()", desk.trouble(), 0);
    }

    private static Refusal ofAll(String text) {
        return new Refusal(CHECK, d -> {
            d.port(1);
            Desks.tell(d, text);
            d.pass(1);
            d.stock(0, 0, 9);
        });
    }

    private static final String EACH_KIND = "fee 0 is 10;fee 1 is 11;fee 8 is 18;fee 9 is 19";

    private static void termsIIKind() {
        CHECK.of("Terms II", "(the NUMBER of a KIND of paper, 0 .. 9)");
        ConsulDesk desk = told(EACH_KIND);
        for (int kind : new int[] {0, 1, 8, 9}) {
            CHECK.due("kind " + kind, desk.fee(0, 0, kind, 0, 1), 10 + kind);
        }
        Refusal refusal = ofAll(EACH_KIND);
        for (int kind : new int[] {-1, 10, 11, Integer.MIN_VALUE, Integer.MAX_VALUE}) {
            refusal.due("fee of kind " + kind, d -> d.fee(0, 0, kind, 0, 1), 2);
            refusal.due("seal of kind " + kind, d -> d.seal(0, kind, 0, 1), 2);
        }
    }

    private static void termsIIValue() {
        CHECK.of("Terms II", "value (of the paper, 0 .. 9,999)");
        ConsulDesk desk = told("fee 1 is value/3");
        for (int value : new int[] {0, 1, 9998, 9999}) {
            CHECK.due("value " + value, desk.fee(0, 0, 1, value, 1), value / 3);
        }
        Refusal refusal = ofAll("fee 1 is 1");
        for (int value : new int[] {-1, 10000, Integer.MIN_VALUE, Integer.MAX_VALUE}) {
            refusal.due("fee of value " + value, d -> d.fee(0, 0, 1, value, 1), 2);
            refusal.due("seal of value " + value, d -> d.seal(0, 1, value, 1), 2);
        }
        ConsulDesk sealed = Desks.ready("fee 1 is 0");
        CHECK.due("seal of value 0", sealed.paper(sealed.seal(0, 1, 0, 1), 2), 0);
        CHECK.due("seal of value 9,999", sealed.paper(sealed.seal(0, 1, 9999, 1), 2), 9999);
    }

    private static void termsIISheets() {
        CHECK.of("Terms II", "sheets (1 .. 99)");
        ConsulDesk desk = told("fee 1 is sheets");
        for (int sheets : new int[] {1, 2, 98, 99}) {
            CHECK.due("sheets " + sheets, desk.fee(0, 0, 1, 0, sheets), sheets);
        }
        Refusal refusal = ofAll("fee 1 is 1");
        for (int sheets : new int[] {-1, 0, 100, Integer.MIN_VALUE, Integer.MAX_VALUE}) {
            refusal.due("fee of sheets " + sheets, d -> d.fee(0, 0, 1, 0, sheets), 2);
            refusal.due("seal of sheets " + sheets, d -> d.seal(0, 1, 0, sheets), 2);
        }
        ConsulDesk sealed = Desks.ready("fee 1 is 0");
        CHECK.due("seal of 1 sheet", sealed.paper(sealed.seal(0, 1, 0, 1), 3), 1);
        CHECK.due("seal of 99 sheets", sealed.paper(sealed.seal(0, 1, 0, 99), 3), 99);
    }

    private static void termsIIPort() {
        CHECK.of("Terms II", "port (its number)");
        ConsulDesk desk = new ConsulDesk();
        Desks.tell(desk, "fee 1 when port=0 is 7;fee 1 when port=7 is 70;fee 1 is port");
        for (int port = 0; port < 8; port++) {
            desk.port(60 - port);
            int want = port == 0 ? 7 : port == 7 ? 70 : port;
            CHECK.due("port " + port, desk.fee(0, port, 1, 0, 1), want);
        }
    }

    private static void termsIISealed() {
        CHECK.of("Terms II", "sealed (how many papers the port sealed ahead)");
        ConsulDesk desk = new ConsulDesk();
        Desks.tell(desk, "fee 1 when sealed=0 is 9;fee 1 when sealed>198 is 8;fee 1 is 0");
        desk.port(1);
        desk.port(1);
        desk.stock(0, 2, 9);
        desk.stock(0, 1, 9);
        desk.stock(0, 0, 9);
        CHECK.due("none ahead", desk.paper(desk.seal(0, 1, 0, 1), 5), 9);
        CHECK.due("one ahead", desk.paper(desk.seal(0, 1, 0, 1), 5), 0);
        CHECK.due("a refused one counts not", desk.seal(0, 2, 0, 1), -1);
        for (int i = 2; i < 198; i++) {
            desk.seal(0, 1, 0, 1);
        }
        CHECK.due("198 ahead", desk.paper(desk.seal(0, 1, 0, 1), 5), 0);
        CHECK.due("none ahead in the other port", desk.fee(0, 1, 1, 0, 1), 9);
        CHECK.due("199 ahead", desk.paper(desk.seal(0, 1, 0, 1), 5), 8);
        CHECK.due("200 ahead", desk.fee(0, 0, 1, 0, 1), 8);
        CHECK.due("home's of the first", desk.homes(0), 9);
        CHECK.due("home's of the second", desk.homes(1), 0);
        CHECK.due("home's of the last", desk.homes(199), 8);
    }

    private static void termsIITests() {
        CHECK.of("Terms II", "TEST: NAME < NUMBER, NAME > NUMBER, NAME = NUMBER.");
        String[] signs = {"<", ">", "="};
        for (int sign = 0; sign < 3; sign++) {
            for (int value = 99; value <= 101; value++) {
                boolean holds = sign == 0 ? value < 100 : sign == 1 ? value > 100 : value == 100;
                fee("fee 1 when value" + signs[sign] + "100 is 1;fee 1 is 2", value, holds ? 1 : 2);
            }
        }
    }

    private static void termsIINumbersOfTests() {
        CHECK.of("Terms II", "NUMBERS of 1 to 3 digits");
        fee("fee 1 when value<0 is 1;fee 1 is 2", 0, 2);
        fee("fee 1 when value=0 is 1;fee 1 is 2", 0, 1);
        fee("fee 1 when value=0 is 1;fee 1 is 2", 1, 2);
        fee("fee 1 when value>0 is 1;fee 1 is 2", 0, 2);
        fee("fee 1 when value>0 is 1;fee 1 is 2", 1, 1);
        fee("fee 1 when value<999 is 1;fee 1 is 2", 998, 1);
        fee("fee 1 when value<999 is 1;fee 1 is 2", 999, 2);
        fee("fee 1 when value>999 is 1;fee 1 is 2", 999, 2);
        fee("fee 1 when value>999 is 1;fee 1 is 2", 1000, 1);
        fee("fee 1 when value=999 is 1;fee 1 is 2", 999, 1);
        fee("fee 1 when value=009 is 1;fee 1 is 2", 9, 1);
        fee("fee 1 is 0", 9, 0);
        fee("fee 1 is 999", 9, 999);
        fee("fee 1 is 0*value", 9, 0);
        fee("fee 1 is 999*value", 5, 4995);
    }

    private static void termsIIDivided() {
        CHECK.of("Terms II", "(divided downwards)");
        int[][] cases = {{0, 0}, {1, 0}, {9, 0}, {10, 1}, {11, 1}, {19, 1}, {20, 2}, {9999, 999}};
        for (int[] c : cases) {
            fee("fee 1 is value/10", c[0], c[1]);
        }
        fee("fee 1 is value/1", 4321, 4321);
        fee("fee 1 is value/999", 998, 0);
        fee("fee 1 is value/999", 999, 1);
        fee("fee 1 is 3*value/2", 1, 1);
        fee("fee 1 is 3*value/2", 3, 4);
        fee("fee 1 is 999*value/999", 9999, 5000);
        fee("fee 1 is 999*value/999", 4999, 4999);
        fee("fee 1 is value/2+value/2", 1, 0);
        fee("fee 1 is value/2+value/2", 3, 2);
    }

    private static void termsIIFirstLine() {
        CHECK.of("Terms II", "the SUM of its first LINE of that KIND whose TESTS all hold");
        fee("fee 1 is 3;fee 1 is 4", 0, 3);
        fee("fee 2 is 3;fee 1 is 4", 0, 4);
        fee("fee 1 when value>5 is 3;fee 1 is 4;fee 1 is 5", 5, 4);
        String twelve = "fee 1 when value=0 is 20";
        for (int line = 1; line < 12; line++) {
            twelve += ";fee1when value=" + line + "is " + (20 + line);
        }
        for (int value = 0; value < 12; value++) {
            fee(twelve, value, 20 + value);
        }
        fee(twelve, 12, -2);
    }

    private static void termsIIAllTests() {
        CHECK.of("Terms II", "whose TESTS all hold");
        for (int failing = 0; failing <= 4; failing++) {
            StringBuilder line = new StringBuilder();
            for (int test = 0; test < 4; test++) {
                line.append(test == 0 ? "fee 1 when " : " and ").append(test == failing ? "value>5" : "value=5");
            }
            fee(line + " is 1;fee 1 is 2", 5, failing == 4 ? 1 : 2);
        }
    }

    private static void termsIIAtMost() {
        CHECK.of("Terms II", "at most 5,000");
        for (int value : new int[] {4998, 4999, 5000, 5001, 9999}) {
            fee("fee 1 is value", value, Math.min(value, 5000));
            fee("fee 1 is 1+value", value, Math.min(value + 1, 5000));
        }
        ConsulDesk desk = Desks.ready("fee 1 is value");
        desk.stock(0, 4, 200);
        CHECK.due("seal of value 9,999", desk.seal(0, 1, 9999, 1), 0);
        CHECK.due("its fee", desk.paper(0, 5), 5000);
        CHECK.due("its stamps", desk.stamps(0, 4), 100);
        CHECK.due("home's", desk.homes(0), 5000);
        CHECK.due("the chest", desk.about(0, 1), 5000);
    }

    private static void termsIIGreatestSums() {
        CHECK.of("Terms II", "SUM: TERM {+ TERM}.");
        fee("fee 1 is 999*value+999*value+999*value+999*value", 9999, 5000);
        fee("fee 1 is 999*value/999+999*value/999+1+1", 9999, 5000);
        fee("fee 1 is 999+999+999+999", 0, 3996);
        fee("fee 1 is 0+0+0+0", 0, 0);
    }

    private static void termsIIWithoutLine() {
        CHECK.of("Terms II", "a KIND without such a LINE can't be sealed by it.");
        fee("fee 0 is 1;fee 2 is 1", 0, -2);
        fee("fee 1 when value>5 is 1", 5, -2);
        fee("fee 1 when value>5 is 1", 6, 1);
        ofAll("fee 0 is 1;fee 2 is 1").due("seal of kind 1", d -> d.seal(0, 1, 1, 1), 5);
        ofAll("fee 1 when value>5 is 1").due("seal of value 5", d -> d.seal(0, 1, 5, 1), 5);
        ofAll("fee 1 when sealed>0 is 1").due("seal of a first", d -> d.seal(0, 1, 5, 1), 5);
    }

    private static void promise14NoneSuch() {
        CHECK.of("Promise 14", "NONE: 1 (TARIFF, PORT); 2.");
        Refusal refusal = ofAll("fee 1 is 1");
        for (int none : new int[] {-1, 1, 8, 30, Integer.MIN_VALUE, Integer.MAX_VALUE}) {
            refusal.due("fee by tariff " + none, d -> d.fee(none, 0, 1, 0, 1), 1);
            refusal.due("fee in port " + none, d -> d.fee(0, none, 1, 0, 1), 1);
        }
        CHECK.due("tariff 0, port 0", told("fee 1 is 1").fee(0, 0, 1, 0, 1), 1);
    }

    private static void promise14Order() {
        CHECK.of("Promise 14", "NONE: 1 (TARIFF, PORT); 2.");
        Refusal refusal = ofAll("fee 1 is 1");
        refusal.due("fee by tariff 1, kind 10", d -> d.fee(1, 0, 10, 0, 1), 1);
        refusal.due("fee in port 1, value -1", d -> d.fee(0, 1, 1, -1, 1), 1);
        refusal.due("fee of kind 2 (no line), no sheets", d -> d.fee(0, 0, 2, 0, 0), 2);
    }

    private static void promise14Today() {
        CHECK.of("Promise 14", "as if in a PORT TODAY; -2 if it can't be sealed");
        ConsulDesk desk = told("fee 1 is sealed");
        CHECK.due("a tariff that hasn't come there", desk.fee(0, 0, 1, 0, 1), 0);
        CHECK.due("force(0)", desk.force(0), -2);
        CHECK.due("a kind without a line", desk.fee(0, 0, 2, 0, 1), -2);
        CHECK.due("trouble()", desk.trouble(), 0);
        CHECK.due("no paper comes of it", desk.count(2), 0);
    }
}
