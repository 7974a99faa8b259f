/** Terms V and promise 25: each trouble of each call that may be refused, and calls that leave it. */
public final class TroubleEdgesTest {
    private static final Check CHECK = new Check("TroubleEdgesTest");

    public static void main(String[] args) {
        promise25AtFirst();
        termsVNotRefused();
        termsVEach();
        termsVOnlyTheLatest();
        promise25CallsThatTell();
        anyNumbers();
        CHECK.end();
    }

    private static void promise25AtFirst() {
        CHECK.of("Terms V", "TROUBLE of the latest call that may be refused");
        CHECK.due("without any call", new ConsulDesk().trouble(), 0);
    }

    /** Port 0 has tariff 0 in force and a stamp of 1; port 1 waits for it; 20 bytes are on the tape. */
    private static void ready(ConsulDesk desk) {
        desk.port(1);
        desk.port(60);
        Desks.tell(desk, "fee 1 is value");
        desk.pass(1);
        desk.stock(0, 0, 1);
        Desks.feed(desk, "fee 1 is 1");
    }

    private static void behind(String name, Refusal.Call call, long answer, int trouble) {
        for (int before = 0; before < 2; before++) {
            ConsulDesk desk = new ConsulDesk();
            ready(desk);
            if (before == 0) {
                desk.pass(0);
                CHECK.due("ahead of " + name, desk.trouble(), 2);
            }
            CHECK.due(name, call.on(desk), answer);
            CHECK.due("trouble() behind " + name, desk.trouble(), trouble);
            CHECK.due("trouble() told again behind " + name, desk.trouble(), trouble);
        }
    }

    private static void termsVNotRefused() {
        CHECK.of("Terms V", "0 it wasn't");
        behind("port(1)", d -> d.port(1), 2, 0);
        behind("tariff(10)", d -> d.tariff(10), 1, 0);
        behind("lost(1, 0)", d -> d.lost(1, 0) ? 1 : 0, 1, 0);
        behind("pass(1)", d -> d.pass(1), 2, 0);
        behind("stock(0, 0, 0)", d -> d.stock(0, 0, 0), 1, 0);
        behind("fee(0, 0, 1, 1, 1)", d -> d.fee(0, 0, 1, 1, 1), 1, 0);
        behind("seal(0, 1, 1, 1)", d -> d.seal(0, 1, 1, 1), 0, 0);
    }

    private static void termsVEach() {
        CHECK.of("Terms V", "1 there is none such; 2 a number");
        behind("lost(2, 0)", d -> d.lost(2, 0) ? 1 : 0, 0, 1);
        behind("lost(0, 1)", d -> d.lost(0, 1) ? 1 : 0, 0, 1);
        behind("stock(2, 0, 1)", d -> d.stock(2, 0, 1), -1, 1);
        behind("stock(0, 5, 1)", d -> d.stock(0, 5, 1), -1, 1);
        behind("fee(1, 0, 1, 1, 1)", d -> d.fee(1, 0, 1, 1, 1), -1, 1);
        behind("fee(0, 2, 1, 1, 1)", d -> d.fee(0, 2, 1, 1, 1), -1, 1);
        behind("seal(2, 1, 1, 1)", d -> d.seal(2, 1, 1, 1), -1, 1);
        behind("port(0)", d -> d.port(0), -1, 2);
        behind("tariff(21)", d -> d.tariff(21), -1, 2);
        behind("pass(401)", d -> d.pass(401), -1, 2);
        behind("stock(0, 0, 10000)", d -> d.stock(0, 0, 10000), -1, 2);
        behind("fee(0, 0, 10, 1, 1)", d -> d.fee(0, 0, 10, 1, 1), -1, 2);
        behind("seal(0, 1, 1, 100)", d -> d.seal(0, 1, 1, 100), -1, 2);
        CHECK.of("Terms V", "4 a FAULT; 5 it can't be sealed (no TARIFF IN FORCE, no LINE)");
        behind("tariff(9)", d -> d.tariff(9), -1, 4);
        behind("seal(1, 1, 1, 1)", d -> d.seal(1, 1, 1, 1), -1, 5);
        behind("seal(0, 2, 1, 1)", d -> d.seal(0, 2, 1, 1), -1, 5);
        CHECK.of("Terms V", "6 no STAMPS that make it; 7 it came already, or is LOST.");
        behind("seal(0, 1, 2, 1)", d -> d.seal(0, 1, 2, 1), -1, 6);
        behind("lost(0, 0)", d -> d.lost(0, 0) ? 1 : 0, 0, 7);
        behind("lost(1, 0), the second time", d -> d.lost(1, 0) && d.lost(1, 0) ? 1 : 0, 0, 7);
    }

    private static void termsVOnlyTheLatest() {
        CHECK.of("Terms V", "of the latest call that may be refused");
        ConsulDesk desk = new ConsulDesk();
        ready(desk);
        Refusal.Call[] calls = {d -> d.port(0), d -> d.lost(9, 9) ? 1 : 0, d -> d.seal(0, 1, 2, 1),
            d -> d.seal(0, 2, 2, 1), d -> d.tariff(3), d -> d.lost(0, 0) ? 1 : 0, d -> d.pass(1)};
        int[] want = {2, 1, 6, 5, 4, 7, 0};
        for (int i = 0; i < calls.length; i++) {
            calls[i].on(desk);
            CHECK.due("behind call " + i, desk.trouble(), want[i]);
        }
    }

    private static void promise25CallsThatTell() {
        CHECK.of("Promise 25", "TROUBLE.");
        Refusal.Call[] calls = {d -> d.fault(), d -> d.where(), d -> d.force(0), d -> d.force(9), d -> d.came(0, 0),
            d -> d.came(9, 9), d -> d.asked(0, 0), d -> d.asked(9, 9), d -> d.under(0), d -> d.under(9),
            d -> d.paper(0, 0), d -> d.paper(9, 9), d -> d.stamps(0, 0), d -> d.stamps(9, 9), d -> d.about(0, 0),
            d -> d.about(9, 9), d -> d.known(0, 0), d -> d.known(9, 9), d -> d.sum(0, 0), d -> d.sum(9, 9),
            d -> d.homes(0), d -> d.homes(9), d -> d.difference(0), d -> d.difference(9), d -> d.unlike(0),
            d -> d.unlike(9), d -> d.count(0), d -> d.count(9), d -> d.trouble()};
        for (int i = 0; i < calls.length; i++) {
            ConsulDesk desk = new ConsulDesk();
            ready(desk);
            desk.seal(0, 1, 2, 1);
            calls[i].on(desk);
            CHECK.due("6 behind telling call " + i, desk.trouble(), 6);
            desk.pass(1);
            calls[i].on(desk);
            CHECK.due("0 behind telling call " + i, desk.trouble(), 0);
        }
    }

    private static final int[] ANY = {Integer.MIN_VALUE, Integer.MIN_VALUE + 1, -10001, -2, -1, 0, 1, 2, 4, 5, 7, 8,
        30, 200, 300, 10000, 10001, Integer.MAX_VALUE - 1, Integer.MAX_VALUE};

    /** Every call with numbers of all sizes: an answer comes, and a refused call says why. */
    private static void anyNumbers() {
        CHECK.of("LANGUAGE.md 7", "No call may ever throw or fail to end, for any arguments in any state");
        for (int a : ANY) {
            for (int b : ANY) {
                ConsulDesk desk = new ConsulDesk();
                ready(desk);
                desk.seal(0, 1, 1, 1);
                tellAll(desk, a, b);
                refuseAll(desk, a, b);
                refuseAll(desk, b, a);
            }
        }
    }

    private static void tellAll(ConsulDesk desk, int a, int b) {
        Refusal.Call[] calls = {d -> d.force(a), d -> d.came(a, b), d -> d.asked(a, b), d -> d.under(a),
            d -> d.paper(a, b), d -> d.stamps(a, b), d -> d.about(a, b), d -> d.known(a, b), d -> d.sum(a, b),
            d -> d.difference(a), d -> d.unlike(a), d -> d.count(a)};
        for (int i = 0; i < calls.length; i++) {
            CHECK.due("telling call " + i + " of " + a + ", " + b + " is -2 or more", calls[i].on(desk) >= -2, true);
        }
        CHECK.due("homes(" + a + ")", desk.homes(a), a == 0 ? 1 : -10000);
    }

    private static void refuseAll(ConsulDesk desk, int a, int b) {
        Refusal.Call[] calls = {d -> d.port(a), d -> d.tariff(a), d -> d.pass(a), d -> d.stock(a, b, b),
            d -> d.stock(0, a, b), d -> d.fee(a, b, 1, 1, 1), d -> d.fee(0, 0, a, b, b), d -> d.seal(a, b, 1, 1),
            d -> d.seal(0, 1, a, b), d -> d.lost(a, b) ? 0 : -1};
        for (int i = 0; i < calls.length; i++) {
            boolean refused = calls[i].on(desk) == -1;
            CHECK.due("call " + i + " with " + a + ", " + b + " has a trouble", desk.trouble() != 0, refused);
        }
        desk.feed(a, b, a, b, a);
    }
}
