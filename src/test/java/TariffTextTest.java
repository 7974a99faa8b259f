/** Promises 3 to 6: the tape, texts told as tariffs, and their faults. */
public final class TariffTextTest {
    private static final Check CHECK = new Check("TariffTextTest");

    public static void main(String[] args) {
        promise3Feed();
        promise3FeedIsFull();
        promise4Tariff();
        promise4RefusedInOrder();
        promise4NoRoom();
        soundTexts();
        faultsOfForm();
        faultsOfNames();
        faultsOfNumbers();
        faultsOfMany();
        firstFaultFromTheLeft();
        promise5Fault();
        promise6Where();
        CHECK.end();
    }

    private static void promise3Feed() {
        ConsulDesk desk = new ConsulDesk();
        CHECK.due("feed, first", desk.feed(0x66656520, 0x3120206b, 0, -1, 0x20202020), 20);
        CHECK.due("feed, second", desk.feed(0, 0, 0, 0, 0), 40);
        // "fee 1  k": the highest byte comes first, so the fault is at the k.
        CHECK.due("tariff of bytes", desk.tariff(40), -1);
        CHECK.due("where", desk.where(), 7);
        CHECK.due("feed, behind a tariff", desk.feed(0, 0, 0, 0, 0), 20);
        String highest = "fee 1 is 1";
        ConsulDesk signed = new ConsulDesk();
        Desks.feed(signed, highest);
        signed.feed(0xFF202020, 0, 0, 0, 0);
        CHECK.due("a byte above 127", signed.tariff(21), -1);
        CHECK.due("where the byte above 127 is", signed.where(), 20);
    }

    private static void promise3FeedIsFull() {
        ConsulDesk desk = new ConsulDesk();
        for (int i = 1; i <= 15; i++) {
            CHECK.due("feed " + i, desk.feed(0x20202020, 0x20202020, 0x20202020, 0x20202020, 0x20202020), 20 * i);
        }
        CHECK.due("feed 16", desk.feed(0, 0, 0, 0, 0), -1);
        CHECK.due("count(4)", desk.count(4), 300);
        CHECK.due("all blanks", desk.tariff(300), -1);
        CHECK.due("fault of blanks", desk.fault(), 1);
        CHECK.due("where of blanks", desk.where(), 300);
        CHECK.due("count(4) behind", desk.count(4), 0);
    }

    private static void promise4Tariff() {
        ConsulDesk desk = new ConsulDesk();
        Desks.feed(desk, "fee 1 is 1;fee 2 is 3");
        CHECK.due("tariff(10)", desk.tariff(10), 0);
        CHECK.due("the rest of the tape is gone", desk.count(4), 0);
        CHECK.due("second", Desks.tell(desk, "fee 2 is 2"), 1);
        CHECK.due("count(1)", desk.count(1), 2);
        Desks.feed(desk, "fee 1 is 1234");
        CHECK.due("a number ends at n", desk.tariff(12), 2);
        Desks.feed(desk, "fee 1 is values");
        CHECK.due("a word ends at n", desk.tariff(14), 3);
        desk.port(3);
        CHECK.due("fee by the number's first digits", desk.fee(2, 0, 1, 0, 1), 123);
        CHECK.due("fee by the word", desk.fee(3, 0, 1, 45, 1), 45);
        CHECK.due("a short number", Desks.tell(desk, "fee 1 is 12"), 4);
        CHECK.due("fee by 0", desk.fee(0, 0, 1, 0, 1), 1);
        CHECK.due("no second line in 0", desk.fee(0, 0, 2, 0, 1), -2);
        CHECK.due("fee by 4", desk.fee(4, 0, 1, 0, 1), 12);
    }

    private static void promise4RefusedInOrder() {
        ConsulDesk desk = new ConsulDesk();
        Desks.feed(desk, "fee 1 is 1");
        for (int n : new int[] {21, -1, 300, Integer.MAX_VALUE, Integer.MIN_VALUE}) {
            CHECK.due("tariff(" + n + ")", desk.tariff(n), -1);
            CHECK.due("trouble by " + n, desk.trouble(), 2);
            CHECK.due("the tape stays", desk.count(4), 20);
        }
        CHECK.due("all of the tape", desk.tariff(20), 0);
        CHECK.due("trouble", desk.trouble(), 0);
        Desks.feed(desk, "fee 1");
        CHECK.due("a fault", desk.tariff(5), -1);
        CHECK.due("trouble of a fault", desk.trouble(), 4);
        CHECK.due("the tape is empty behind a fault", desk.count(4), 0);
        CHECK.due("no tariff comes of a fault", desk.count(1), 1);
    }

    private static void promise4NoRoom() {
        ConsulDesk desk = new ConsulDesk();
        for (int i = 0; i < 30; i++) {
            CHECK.due("tariff " + i, Desks.tell(desk, "fee 1 is 1"), i);
        }
        CHECK.due("a fault is met ahead of no room", Desks.tell(desk, "fee 1 is"), -1);
        CHECK.due("trouble 4", desk.trouble(), 4);
        CHECK.due("the 31st", Desks.tell(desk, "fee 1 is 1"), -1);
        CHECK.due("trouble 3", desk.trouble(), 3);
        CHECK.due("fault without one", desk.fault(), 0);
        CHECK.due("where without one", desk.where(), -1);
        CHECK.due("the tape is empty", desk.count(4), 0);
        CHECK.due("count(1)", desk.count(1), 30);
    }

    private static void sound(String text) {
        CHECK.due("\"" + text + "\"", Desks.tell(new ConsulDesk(), text), 0);
    }

    private static void soundTexts() {
        sound("fee1is1");
        sound("  fee   1   is   1   ");
        sound("fee 009 is 000");
        sound("fee 9 when value<1and sheets>2and port=3and sealed<999is 1+2*value+3*sheets/4+port/5");
        sound("fee 1 is sealed/1+999*sealed/999");
        sound("fee1is1" + ";fee1is1".repeat(11));
        sound("fee 0 is 2 * value / 50;fee 0 is value");
    }

    private static void faulty(String text, int fault, int where) {
        ConsulDesk desk = new ConsulDesk();
        CHECK.due("\"" + text + "\"", Desks.tell(desk, text), -1);
        CHECK.due("trouble of \"" + text + "\"", desk.trouble(), 4);
        CHECK.due("fault of \"" + text + "\"", desk.fault(), fault);
        CHECK.due("where of \"" + text + "\"", desk.where(), where);
    }

    private static void faultsOfForm() {
        faulty("", 1, 0);
        faulty("   ", 1, 3);
        faulty("fe 1 is 1", 1, 0);
        faulty("feee1 is 1", 1, 0);
        faulty("value", 1, 0);
        faulty("tee 1 is 1", 1, 0);
        faulty("when 1 is 1", 1, 0);
        faulty("fee 1 then value<1 is 1", 1, 6);
        faulty("fee 1 fee value<1 is 1", 1, 6);
        faulty("fee 1 us 1", 1, 6);
        faulty("fee 1 when value<1 end port<1 is 1", 1, 19);
        faulty("fee 1 when value<1 when port<1 is 1", 1, 19);
        faulty("fee", 1, 3);
        faulty("fee  ", 1, 5);
        faulty("fee value is 1", 1, 4);
        faulty("fee 1234 is 1", 1, 4);
        faulty("fee 0001 is 1", 1, 4);
        faulty("fee 1 and value<1 is 1", 1, 6);
        faulty("fee 1 when 1 is 1", 1, 11);
        faulty("fee 1 when value + 1 is 1", 1, 17);
        faulty("fee 1 when value < value is 1", 1, 19);
        faulty("fee 1 when value < 1", 1, 20);
        faulty("fee 1 when value < 1 when", 1, 21);
        faulty("fee 1 is", 1, 8);
        faulty("fee 1 is 1;", 1, 11);
        faulty("fee 1 is 1;;fee 1 is 1", 1, 11);
        faulty("fee 1 is 1 fee 1 is 1", 1, 11);
        faulty("fee 1 is 1+", 1, 11);
        faulty("fee 1 is 2/3", 1, 10);
        faulty("fee 1 is 2*3", 1, 11);
        faulty("fee 1 is value*2", 1, 14);
        faulty("fee 1 is value/", 1, 15);
        faulty("fee 1 is value/value", 1, 15);
        faulty("fee 1 is value/2/2", 1, 16);
        faulty("fee 1 is 1 ?", 1, 11);
        faulty("fee 1 is 1\n", 1, 10);
        faulty("Fee 1 is 1", 1, 0);
        faulty("fee 1 is -1", 1, 9);
        faulty("fee 1 is 1\u0000", 1, 10);
        faulty("fee 1 is 1\u00ff", 1, 10);
        faulty("\tfee 1 is 1", 1, 0);
    }

    private static void faultsOfNames() {
        faulty("fee 1 is zome", 2, 9);
        faulty("fee 1 is zomezome", 2, 9);
        faulty("fee 1 is zomezomez", 1, 9);
        faulty("fee 1 when zome<1 is 1", 2, 11);
        faulty("fee 1 when values<1 is 1", 2, 11);
        faulty("fee 1 when valu<1 is 1", 2, 11);
        faulty("fee 1 is falue", 2, 9);
        faulty("fee 1 is cheets", 2, 9);
        faulty("fee 1 is sort", 2, 9);
        faulty("fee 1 is healed", 2, 9);
        faulty("fee 1 is sealer", 2, 9);
        faulty("fee 1 when value<1 and kind=1 is 1", 2, 23);
        faulty("fee 1 is 2*zome", 2, 11);
        faulty("fee 1 is 2*is", 1, 11);
        faulty("fee 1 is fee", 1, 9);
        faulty("fee 1 is when", 1, 9);
        faulty("fee 1 is and", 1, 9);
        faulty("fee 1 is 1+is", 1, 11);
        faulty("fee 1 when is 1", 1, 11);
        faulty("fee 1 when fee<1 is 1", 1, 11);
        faulty("fee 1 zome value<1 is 1", 1, 6);
        faulty("fee 1 is value zome", 1, 15);
        faulty("fee 1 is value/zome", 1, 15);
        faulty("fee zome is 1", 1, 4);
    }

    private static void faultsOfNumbers() {
        faulty("fee 10 is 1", 3, 4);
        faulty("fee  999 zome", 3, 5);
        faulty("fee 1 is value/0", 3, 15);
        faulty("fee 1 is value/000", 3, 15);
        faulty("fee 1 is 2*value / 00", 3, 19);
        faulty("fee 1 is 1;fee 10 is 1", 3, 15);
        faulty("fee 1 is value/0000", 1, 15);
    }

    private static void faultsOfMany() {
        String twelve = "fee1is1" + ";fee1is1".repeat(11);
        faulty(twelve + ";fee1is1", 4, 96);
        faulty(twelve + ";fee10is1", 4, 96);
        faulty(twelve + "; fee", 4, 97);
        faulty(twelve + ";zome", 1, 96);
        faulty(twelve + ";value", 1, 96);
        faulty(twelve + ";", 1, 96);
        String tests = "fee1when port<9and port<9and port<9and port<9";
        sound(tests + "is 1");
        faulty(tests + "and port<9is 1", 4, 49);
        faulty(tests + "and zome<9is 1", 2, 49);
        faulty(tests + "and is 1", 1, 49);
        faulty(tests + "and 1", 1, 49);
        faulty(tests + "and ", 1, 49);
        String terms = "fee 1 is 1+value/2+3*port+4";
        sound(terms);
        faulty(terms + "+5", 4, 28);
        faulty(terms + "+sealed", 4, 28);
        faulty(terms + "+zome", 2, 28);
        faulty(terms + "+is", 1, 28);
        faulty(terms + "+1234", 1, 28);
        faulty(terms + "++", 1, 28);
        faulty(terms + "+", 1, 28);
        // The bounds are of each line, not of the text.
        sound(tests + "is 1;" + tests + "is 1");
        sound(terms + ";" + terms);
    }

    private static void firstFaultFromTheLeft() {
        faulty("fee 10 is zome ?", 3, 4);
        faulty("fee 1 is zome ?", 2, 9);
        faulty("? fee 10", 1, 0);
        faulty("fee 1 is value/0+zome", 3, 15);
        faulty("fee 1 is 1+2+3+4+5 ?", 4, 17);
    }

    private static void promise5Fault() {
        ConsulDesk desk = new ConsulDesk();
        CHECK.due("fault of none", desk.fault(), 0);
        Desks.tell(desk, "fee 10 is 1");
        CHECK.due("fault 3", desk.fault(), 3);
        desk.tariff(1);
        CHECK.due("a refusal by 2 leaves it", desk.fault(), 3);
        desk.pass(1);
        CHECK.due("other calls leave it", desk.fault(), 3);
        Desks.tell(desk, "fee 1 is 1");
        CHECK.due("a sound text ends it", desk.fault(), 0);
    }

    private static void promise6Where() {
        ConsulDesk desk = new ConsulDesk();
        CHECK.due("where of none", desk.where(), -1);
        Desks.tell(desk, "fee 10 is 1");
        CHECK.due("where", desk.where(), 4);
        desk.count(0);
        desk.force(9);
        desk.paper(0, 0);
        CHECK.due("calls that only tell leave it", desk.where(), 4);
        desk.port(0);
        CHECK.due("behind a refusal by 2", desk.where(), -1);
        Desks.tell(desk, "fee 10 is 1");
        desk.port(1);
        CHECK.due("behind a call that wasn't refused", desk.where(), -1);
        CHECK.due("fault stays", desk.fault(), 3);
        Desks.tell(desk, "fee 10 is 1");
        desk.tariff(301);
        CHECK.due("behind tariff() refused by 2", desk.where(), -1);
        Desks.tell(desk, "fee 10 is 1");
        desk.lost(5, 5);
        CHECK.due("behind lost()", desk.where(), -1);
    }
}
