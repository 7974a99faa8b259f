/** The edges of Terms I and of promises 1, 2, 8 and 24: what there may be at most, and the days. */
public final class BoundsEdgesTest {
    private static final Check CHECK = new Check("BoundsEdgesTest");
    private static final int[] FAR = {Integer.MIN_VALUE, Integer.MIN_VALUE + 1, Integer.MAX_VALUE - 1,
        Integer.MAX_VALUE};

    public static void main(String[] args) {
        promise1Nothing();
        promise1NothingToActOn();
        termsIPorts();
        termsIDays();
        promise2Order();
        termsITariffs();
        termsIPapers();
        termsIWorths();
        termsIToday();
        promise8Days();
        promise8Beyond();
        lastDay();
        promise24Others();
        lastCall();
        CHECK.end();
    }

    private static void promise1Nothing() {
        CHECK.of("Promise 1", "No PORTS, no TARIFFS; TODAY is 0.");
        ConsulDesk desk = new ConsulDesk();
        for (int what = 0; what < 5; what++) {
            CHECK.due("count(" + what + ")", desk.count(what), 0);
        }
        for (int what = 0; what < 3; what++) {
            CHECK.due("under(" + what + ")", desk.under(what), 0);
        }
        CHECK.due("force(0)", desk.force(0), -1);
        CHECK.due("came(0, 0)", desk.came(0, 0), -1);
        CHECK.due("asked(0, 0)", desk.asked(0, 0), -1);
        CHECK.due("paper(0, 0)", desk.paper(0, 0), -1);
        CHECK.due("stamps(0, 0)", desk.stamps(0, 0), -1);
        CHECK.due("about(0, 0)", desk.about(0, 0), -1);
        CHECK.due("known(0, 0)", desk.known(0, 0), -1);
        CHECK.due("sum(0, 0)", desk.sum(0, 0), -1);
        CHECK.due("homes(0)", desk.homes(0), -10000);
        CHECK.due("difference(0)", desk.difference(0), 0);
        CHECK.due("unlike(0)", desk.unlike(0), -1);
        CHECK.due("fault()", desk.fault(), 0);
        CHECK.due("where()", desk.where(), -1);
        CHECK.due("trouble()", desk.trouble(), 0);
    }

    private static void promise1NothingToActOn() {
        CHECK.of("Promise 1", "No PORTS, no TARIFFS");
        Refusal refusal = new Refusal(CHECK, desk -> { });
        refusal.due("lost(0, 0)", d -> d.lost(0, 0) ? 1 : 0, 1);
        refusal.due("stock(0, 0, 0)", d -> d.stock(0, 0, 0), 1);
        refusal.due("fee(0, 0, 0, 0, 1)", d -> d.fee(0, 0, 0, 0, 1), 1);
        refusal.due("seal(0, 0, 0, 1)", d -> d.seal(0, 0, 0, 1), 1);
        refusal.due("tariff(1)", d -> d.tariff(1), 2);
        refusal.due("tariff(0)", d -> d.tariff(0), 4);
    }

    private static void ports(ConsulDesk desk, int many) {
        for (int i = 0; i < many; i++) {
            desk.port(1 + i);
        }
    }

    private static void termsIPorts() {
        CHECK.of("Terms I", "PORTS 8");
        ConsulDesk desk = new ConsulDesk();
        for (int i = 0; i < 8; i++) {
            CHECK.due("port no. " + i, desk.port(60), i);
            CHECK.due("its trouble()", desk.trouble(), 0);
            CHECK.due("count(0)", desk.count(0), i + 1);
            CHECK.due("about the next", desk.about(i + 1, 0), -1);
        }
        new Refusal(CHECK, d -> ports(d, 8)).due("a ninth port", d -> d.port(60), 3);
    }

    private static void termsIDays() {
        CHECK.of("Terms I", "each DAYS 1 .. 60 away from home");
        Refusal refusal = new Refusal(CHECK, d -> ports(d, 1));
        refusal.due("port(-1)", d -> d.port(-1), 2);
        refusal.due("port(0)", d -> d.port(0), 2);
        refusal.due("port(61)", d -> d.port(61), 2);
        for (int days : FAR) {
            refusal.due("port(" + days + ")", d -> d.port(days), 2);
        }
        for (int days : new int[] {1, 2, 59, 60}) {
            ConsulDesk desk = new ConsulDesk();
            CHECK.due("port(" + days + ")", desk.port(days), 0);
            CHECK.due("trouble()", desk.trouble(), 0);
            CHECK.due("about(0, 0)", desk.about(0, 0), days);
        }
    }

    private static void promise2Order() {
        CHECK.of("Promise 2", "NONE: 2; 3.");
        Refusal refusal = new Refusal(CHECK, d -> ports(d, 8));
        refusal.due("port(0), a ninth", d -> d.port(0), 2);
        refusal.due("port(61), a ninth", d -> d.port(61), 2);
        refusal.due("port(1), a ninth", d -> d.port(1), 3);
    }

    private static void tariffs(ConsulDesk desk, int many) {
        desk.port(7);
        for (int i = 0; i < many; i++) {
            Desks.tell(desk, "fee 1 is 1");
        }
    }

    private static void termsITariffs() {
        CHECK.of("Terms I", "TARIFFS 30");
        ConsulDesk desk = new ConsulDesk();
        desk.port(7);
        for (int i = 0; i < 30; i++) {
            CHECK.due("fee by no. " + i + " ahead of it", desk.fee(i, 0, 1, 0, 1), -1);
            CHECK.due("came(0, " + i + ") ahead of it", desk.came(0, i), -1);
            CHECK.due("tariff no. " + i, Desks.tell(desk, "fee 1 is 5"), i);
            CHECK.due("count(1)", desk.count(1), i + 1);
            CHECK.due("under(0)", desk.under(0), i + 1);
            CHECK.due("fee by no. " + i, desk.fee(i, 0, 1, 0, 1), 5);
        }
        desk.pass(7);
        CHECK.due("the 30th in force", desk.force(0), 29);
        Refusal refusal = new Refusal(CHECK, d -> tariffs(d, 30));
        refusal.due("a 31st tariff", d -> Desks.tell(d, "fee 1 is 1"), 3, 0);
        refusal.due("lost(0, 30)", d -> d.lost(0, 30) ? 1 : 0, 1);
        refusal.due("fee by no. 30", d -> d.fee(30, 0, 1, 0, 1), 1);
    }

    private static void papers(ConsulDesk desk, int many) {
        Desks.tell(desk, "fee 1 is 1");
        desk.port(7);
        desk.stock(0, 0, many + 3);
        for (int i = 0; i < many; i++) {
            desk.seal(0, 1, i, 1);
        }
    }

    private static void termsIPapers() {
        CHECK.of("Terms I", "PAPERS 200");
        ConsulDesk desk = new ConsulDesk();
        papers(desk, 199);
        CHECK.due("199 papers", desk.count(2), 199);
        CHECK.due("no paper 199 yet", desk.paper(199, 2), -1);
        CHECK.due("the 200th paper", desk.seal(0, 1, 199, 1), 199);
        CHECK.due("its trouble()", desk.trouble(), 0);
        CHECK.due("its value", desk.paper(199, 2), 199);
        CHECK.due("its stamp", desk.stamps(199, 0), 1);
        CHECK.due("its home's fee", desk.homes(199), 1);
        CHECK.due("no paper 200", desk.paper(200, 0), -1);
        CHECK.due("no stamps of 200", desk.stamps(200, 0), -1);
        CHECK.due("no home's fee of 200", desk.homes(200), -10000);
        new Refusal(CHECK, d -> papers(d, 200)).due("a 201st paper", d -> d.seal(0, 1, 0, 1), 3);
    }

    private static void termsIWorths() {
        CHECK.of("Terms I", "STAMPS of five WORTHS 1, 2, 5, 10, 50");
        int[] worths = {1, 2, 5, 10, 50};
        for (int worth = 0; worth < 5; worth++) {
            ConsulDesk desk = Desks.ready("fee 1 is value");
            desk.stock(0, worth, 2);
            CHECK.due("one stamp less 1", desk.seal(0, 1, worths[worth] - 1, 1), worth == 0 ? 0 : -1);
            int paper = worth == 0 ? 1 : 0;
            CHECK.due("one stamp", desk.seal(0, 1, worths[worth], 1), paper);
            CHECK.due("of that worth", desk.stamps(paper, worth), 1);
            CHECK.due("two stamps' worth of one", desk.seal(0, 1, 2 * worths[worth], 1), -1);
            CHECK.due("trouble()", desk.trouble(), 6);
        }
    }

    private static void termsIToday() {
        CHECK.of("Terms I", "TODAY 0 .. 10,000 (0 at first)");
        ConsulDesk desk = new ConsulDesk();
        CHECK.due("at first", desk.count(3), 0);
        for (int i = 1; i <= 25; i++) {
            CHECK.due("pass(400)", desk.pass(400), 400 * i);
            CHECK.due("TODAY", desk.count(3), 400 * i);
        }
        CHECK.due("TODAY at last", desk.count(3), 10000);
        Refusal refusal = new Refusal(CHECK, d -> Desks.pass(d, 10000));
        refusal.due("pass(1) on day 10,000", d -> d.pass(1), 2);
        refusal.due("pass(400) on day 10,000", d -> d.pass(400), 2);
    }

    private static void promise8Days() {
        CHECK.of("Promise 8", "So many DAYS go (1 .. 400): TODAY.");
        Refusal refusal = new Refusal(CHECK, d -> tariffs(d, 2));
        refusal.due("pass(-1)", d -> d.pass(-1), 2);
        refusal.due("pass(0)", d -> d.pass(0), 2);
        refusal.due("pass(401)", d -> d.pass(401), 2);
        for (int days : FAR) {
            refusal.due("pass(" + days + ")", d -> d.pass(days), 2);
        }
        for (int days : new int[] {1, 2, 399, 400}) {
            ConsulDesk desk = new ConsulDesk();
            CHECK.due("pass(" + days + ")", desk.pass(days), days);
            CHECK.due("trouble()", desk.trouble(), 0);
        }
    }

    private static void promise8Beyond() {
        CHECK.of("Promise 8", "NONE: 2 (also beyond 10,000).");
        int[][] cases = {{9600, 400}, {9601, 399}, {9998, 2}, {9999, 1}};
        for (int[] c : cases) {
            ConsulDesk desk = new ConsulDesk();
            Desks.pass(desk, c[0]);
            CHECK.due("pass(" + c[1] + ") on day " + c[0], desk.pass(c[1]), 10000);
            CHECK.due("trouble()", desk.trouble(), 0);
            int more = c[1] + 1;
            new Refusal(CHECK, d -> Desks.pass(d, c[0])).due("pass(" + more + ") on day " + c[0],
                d -> d.pass(more), 2);
        }
    }

    private static void lastDay() {
        CHECK.of("Terms I", "TODAY 0 .. 10,000");
        ConsulDesk desk = new ConsulDesk();
        Desks.pass(desk, 9940);
        desk.port(60);
        Desks.tell(desk, "fee 1 is 1");
        Desks.pass(desk, 59);
        CHECK.due("not come on day 9,999", desk.came(0, 0), -2);
        desk.pass(1);
        CHECK.due("come on day 10,000", desk.came(0, 0), 10000);
        desk.stock(0, 0, 1);
        CHECK.due("sealed on day 10,000", desk.seal(0, 1, 0, 1), 0);
        CHECK.due("its day", desk.paper(0, 4), 10000);
        CHECK.due("not known", desk.paper(0, 8), -2);
        CHECK.due("none known on day 10,000", desk.known(0, 10000), 0);
        CHECK.due("day 10,001", desk.known(0, 10001), -1);
        CHECK.due("told on day 10,000", Desks.tell(desk, "fee 1 is 2"), 1);
        CHECK.due("it is on its way", desk.under(0), 1);
        CHECK.due("accounts of days 9,960 and 9,990", desk.about(0, 3), 2);
        CHECK.due("both on their way", desk.under(2), 2);
    }

    private static void promise24Others() {
        CHECK.of("Promise 24", "NONE for others.");
        ConsulDesk desk = new ConsulDesk();
        desk.pass(3);
        CHECK.due("count(-1)", desk.count(-1), -1);
        CHECK.due("count(0)", desk.count(0), 0);
        CHECK.due("count(3)", desk.count(3), 3);
        CHECK.due("count(4)", desk.count(4), 0);
        CHECK.due("count(5)", desk.count(5), -1);
        for (int what : FAR) {
            CHECK.due("count(" + what + ")", desk.count(what), -1);
        }
    }

    private static void lastCall() {
        CHECK.of("What it is", "An object is used for at most 512 calls after it has been made");
        ConsulDesk days = new ConsulDesk();
        for (int call = 1; call <= 512; call++) {
            CHECK.due("call " + call + ", pass(1)", days.pass(1), call);
        }
        ConsulDesk texts = new ConsulDesk();
        for (int call = 1; call <= 511; call += 2) {
            CHECK.due("call " + call, texts.feed(0x66656531, 0x20202020, 0x20202020, 0x20202020, 0x20202020), 20);
            CHECK.due("call " + (call + 1), texts.tariff(20), -1);
        }
        ConsulDesk papers = new ConsulDesk();
        papers.port(1);
        Desks.tell(papers, "fee 1 is 1");
        papers.pass(1);
        papers.stock(0, 0, 200);
        for (int call = 7; call <= 512; call++) {
            CHECK.due("call " + call + ", a seal", papers.seal(0, 1, 1, 1), call - 7 < 200 ? call - 7 : -1);
        }
    }
}
