/** The edges of Terms III and of promises 7 and 9 to 12: dispatches, asks, and what is on its way. */
public final class DispatchEdgesTest {
    private static final Check CHECK = new Check("DispatchEdgesTest");
    private static final int[] DAYS = {1, 2, 29, 30, 59, 60};

    public static void main(String[] args) {
        termsIIIEveryPort();
        termsIIINoPort();
        termsIIISameNumber();
        termsIIIDaysLater();
        termsIIIOpenedLater();
        termsIIIOpenedLaterOnTheSameDay();
        termsIIIAsksOnTheFirstDay();
        termsIIINoneGreater();
        termsIIIAsksOnce();
        termsIIIAsksOfManyLost();
        termsIIISentAgain();
        termsIIIOnlyAtFirst();
        termsIIIInForceOnThatDay();
        termsIIIInForceWithGaps();
        termsIIIComesThenAsks();
        termsIIILongPass();
        promise7NoneSuch();
        promise7CameAlready();
        promise7LostAlready();
        promise7OnlyThatOne();
        promise9None();
        promise10None();
        promise11None();
        promise12Whats();
        promise12Out();
        promise12Asks();
        promise12Accounts();
        CHECK.end();
    }

    /** A desk of one port, so far away, to which so many tariffs are sent on day 0. */
    private static ConsulDesk sent(int days, int many) {
        ConsulDesk desk = new ConsulDesk();
        desk.port(days);
        for (int i = 0; i < many; i++) {
            Desks.tell(desk, "fee 1 is " + i);
        }
        return desk;
    }

    private static void termsIIIEveryPort() {
        CHECK.of("Terms III", "A TARIFF that is told at home is sent out TODAY to every PORT there is");
        ConsulDesk desk = new ConsulDesk();
        for (int port = 0; port < 8; port++) {
            desk.port(1 + port);
        }
        Desks.tell(desk, "fee 1 is 1");
        CHECK.due("sent to all eight", desk.under(0), 8);
        for (int day = 1; day <= 8; day++) {
            desk.pass(1);
            CHECK.due("on their way on day " + day, desk.under(0), 8 - day);
            CHECK.due("came to port " + (day - 1), desk.came(day - 1, 0), day);
            CHECK.due("not yet to port " + day, desk.came(day, 0), day == 8 ? -1 : -2);
        }
    }

    private static void termsIIINoPort() {
        CHECK.of("Terms III", "to every PORT there is");
        ConsulDesk desk = new ConsulDesk();
        CHECK.due("told without a port", Desks.tell(desk, "fee 1 is 1"), 0);
        CHECK.due("none on its way", desk.under(0), 0);
        desk.pass(400);
        CHECK.due("none asks", desk.under(1), 0);
        CHECK.due("none accounts", desk.under(2), 0);
    }

    private static void termsIIISameNumber() {
        CHECK.of("Terms III", "by the same number in each (from 0 on, in the order told)");
        ConsulDesk desk = new ConsulDesk();
        desk.port(3);
        Desks.tell(desk, "fee 1 is 10");
        desk.port(5);
        Desks.tell(desk, "fee 1 is 11");
        for (int port = 0; port < 2; port++) {
            CHECK.due("no number -1 in " + port, desk.came(port, -1), -1);
            CHECK.due("number 1 in " + port, desk.came(port, 1), -2);
            CHECK.due("no number 2 in " + port, desk.came(port, 2), -1);
        }
        desk.pass(5);
        CHECK.due("came to port 0", desk.came(0, 1), 3);
        CHECK.due("came to port 1", desk.came(1, 1), 5);
    }

    private static void termsIIIDaysLater() {
        CHECK.of("Terms III", "it comes DAYS later, unless that one is LOST.");
        for (int days : DAYS) {
            ConsulDesk desk = new ConsulDesk();
            desk.port(days);
            desk.port(days);
            desk.pass(7);
            Desks.tell(desk, "fee 1 is 1");
            CHECK.due("lost(1, 0)", desk.lost(1, 0), true);
            CHECK.due("on day 7", desk.came(0, 0), -2);
            Desks.pass(desk, days - 1);
            CHECK.due("a day ahead, of " + days, desk.came(0, 0), -2);
            desk.pass(1);
            CHECK.due("on its day, of " + days, desk.came(0, 0), 7 + days);
            CHECK.due("the lost one, of " + days, desk.came(1, 0), -2);
            desk.pass(400);
            CHECK.due("long behind, of " + days, desk.came(0, 0), 7 + days);
            CHECK.due("the lost one long behind, of " + days, desk.came(1, 0), -2);
        }
    }

    private static void termsIIIOpenedLater() {
        CHECK.of("Terms III", "A PORT opened later gets all there are TODAY at once.");
        ConsulDesk none = new ConsulDesk();
        none.port(60);
        CHECK.due("none there are: force", none.force(0), -2);
        CHECK.due("none there are: came", none.came(0, 0), -1);
        ConsulDesk desk = new ConsulDesk();
        for (int i = 0; i < 30; i++) {
            Desks.tell(desk, "fee 1 is 1");
        }
        desk.pass(11);
        desk.port(60);
        CHECK.due("all 30: force", desk.force(0), 29);
        for (int number = 0; number < 30; number++) {
            CHECK.due("came(0, " + number + ")", desk.came(0, number), 11);
            CHECK.due("asked(0, " + number + ")", desk.asked(0, number), 0);
        }
        CHECK.due("none on its way", desk.under(0), 0);
        CHECK.due("no number 30", desk.came(0, 30), -1);
    }

    private static void termsIIIOpenedLaterOnTheSameDay() {
        CHECK.of("Terms III", "A PORT opened later gets all there are TODAY at once.");
        ConsulDesk desk = new ConsulDesk();
        Desks.tell(desk, "fee 1 is 1");
        desk.port(60);
        Desks.tell(desk, "fee 1 is 2");
        CHECK.due("the one ahead of it came on day 0", desk.came(0, 0), 0);
        CHECK.due("the one behind it travels", desk.came(0, 1), -2);
        CHECK.due("force", desk.force(0), 0);
        desk.pass(59);
        CHECK.due("on day 59", desk.force(0), 0);
        desk.pass(1);
        CHECK.due("on day 60", desk.force(0), 1);
    }

    private static void termsIIIAsksOnTheFirstDay() {
        CHECK.of("Terms III",
            "A PORT ASKS for a number on the first DAY on which a greater one has come and it hasn't");
        for (int days : DAYS) {
            ConsulDesk desk = sent(days, 1);
            desk.lost(0, 0);
            desk.pass(3);
            Desks.tell(desk, "fee 1 is 1");
            Desks.pass(desk, days - 1);
            CHECK.due("a day ahead, of " + days, desk.asked(0, 0), 0);
            CHECK.due("asks a day ahead, of " + days, desk.under(1), 0);
            desk.pass(1);
            CHECK.due("the greater one came, of " + days, desk.came(0, 1), 3 + days);
            CHECK.due("on that day, of " + days, desk.asked(0, 0), 1);
            CHECK.due("asks on that day, of " + days, desk.under(1), 1);
        }
    }

    private static void termsIIINoneGreater() {
        CHECK.of("Terms III", "on which a greater one has come");
        ConsulDesk desk = sent(5, 3);
        desk.lost(0, 2);
        desk.pass(400);
        CHECK.due("the greatest isn't asked for", desk.asked(0, 2), 0);
        CHECK.due("it hasn't come", desk.came(0, 2), -2);
        CHECK.due("the one ahead is in force", desk.force(0), 1);
        CHECK.due("no asks", desk.under(1), 0);
        ConsulDesk all = sent(5, 3);
        for (int number = 0; number < 3; number++) {
            all.lost(0, number);
        }
        all.pass(400);
        for (int number = 0; number < 3; number++) {
            CHECK.due("all lost, none greater than " + number, all.asked(0, number), 0);
        }
        CHECK.due("none in force", all.force(0), -2);
    }

    private static void termsIIIAsksOnce() {
        CHECK.of("Terms III", "(each number once)");
        ConsulDesk desk = sent(10, 2);
        desk.lost(0, 0);
        for (int i = 0; i < 8; i++) {
            desk.pass(3);
            Desks.tell(desk, "fee 1 is 9");
            CHECK.due("asked on day " + 3 * (i + 1), desk.asked(0, 0), i < 3 ? 0 : 1);
        }
        CHECK.due("on day 24 one is sent again", desk.came(0, 0), -2);
        desk.pass(400);
        CHECK.due("once for all that came", desk.asked(0, 0), 1);
        CHECK.due("it came", desk.came(0, 0), 30);
    }

    private static void termsIIIAsksOfManyLost() {
        CHECK.of("Terms III", "A PORT ASKS for a number on the first DAY on which a greater one has come");
        ConsulDesk desk = sent(10, 29);
        for (int number = 0; number < 29; number++) {
            desk.lost(0, number);
        }
        desk.pass(2);
        Desks.tell(desk, "fee 1 is 1");
        desk.pass(9);
        CHECK.due("none by day 11", desk.under(1), 0);
        desk.pass(1);
        CHECK.due("29 asks on day 12", desk.under(1), 29);
        desk.pass(9);
        CHECK.due("29 asks on day 21", desk.under(1), 29);
        CHECK.due("none sent again by day 21", desk.under(0), 0);
        desk.pass(1);
        CHECK.due("none on day 22", desk.under(1), 0);
        CHECK.due("29 sent again on day 22", desk.under(0), 29);
        desk.pass(9);
        CHECK.due("none in force on day 31", desk.force(0), -2);
        desk.pass(1);
        CHECK.due("all in force on day 32", desk.force(0), 29);
    }

    private static void termsIIISentAgain() {
        CHECK.of("Terms III",
            "an ASK comes home DAYS later, and the TARIFF is sent again on that DAY (it comes DAYS later)");
        for (int days : DAYS) {
            ConsulDesk desk = sent(days, 2);
            desk.lost(0, 0);
            // Number 1 at first, then the ask for 0, then 0 again: each is on its way for so many days.
            for (int way = 0; way < 3; way++) {
                onTheWay(desk, way);
                Desks.pass(desk, days - 1);
                onTheWay(desk, way);
                CHECK.due("not come by the day ahead, of " + days, desk.came(0, 0), -2);
                desk.pass(1);
            }
            onTheWay(desk, 3);
            CHECK.due("it comes, of " + days, desk.came(0, 0), 3 * days);
        }
    }

    private static void onTheWay(ConsulDesk desk, int way) {
        String on = " on day " + desk.count(3) + ", " + desk.about(0, 0) + " away";
        CHECK.due("out" + on, desk.under(0), way == 0 || way == 2 ? 1 : 0);
        CHECK.due("asks" + on, desk.under(1), way == 1 ? 1 : 0);
    }

    private static void termsIIIOnlyAtFirst() {
        CHECK.of("Terms III", "Only what is sent at first can be LOST.");
        for (int day = 0; day <= 16; day++) {
            int ahead = day;
            Refusal refusal = new Refusal(CHECK, d -> {
                d.port(5);
                Desks.tell(d, "fee 1 is 0");
                Desks.tell(d, "fee 1 is 1");
                d.lost(0, 0);
                Desks.pass(d, ahead);
            });
            refusal.due("lost(0, 0) again on day " + day, d -> d.lost(0, 0) ? 1 : 0, 7);
        }
    }

    private static void termsIIIInForceOnThatDay() {
        CHECK.of("Terms III",
            "the greatest number such that it and all lesser ones have come by then (on that DAY, too)");
        for (int days : DAYS) {
            ConsulDesk desk = sent(days, 1);
            CHECK.due("on day 0, of " + days, desk.force(0), -2);
            Desks.pass(desk, days - 1);
            CHECK.due("a day ahead, of " + days, desk.force(0), -2);
            Desks.tell(desk, "fee 1 is 2");
            desk.pass(1);
            CHECK.due("on its day, of " + days, desk.force(0), days == 1 ? 1 : 0);
            desk.pass(400);
            CHECK.due("long behind, of " + days, desk.force(0), 1);
        }
    }

    private static void termsIIIInForceWithGaps() {
        CHECK.of("Terms III", "the greatest number such that it and all lesser ones have come by then");
        for (int gap = 0; gap < 4; gap++) {
            ConsulDesk desk = sent(6, 5);
            desk.lost(0, gap);
            desk.pass(6);
            CHECK.due("a gap at " + gap, desk.force(0), gap == 0 ? -2 : gap - 1);
            desk.pass(11);
            CHECK.due("on day 17, a gap at " + gap, desk.force(0), gap == 0 ? -2 : gap - 1);
            desk.pass(1);
            CHECK.due("on day 18, none any more", desk.force(0), 4);
        }
        ConsulDesk two = sent(6, 5);
        two.lost(0, 1);
        two.lost(0, 3);
        two.pass(6);
        CHECK.due("two gaps", two.force(0), 0);
        two.pass(12);
        CHECK.due("both filled on one day", two.force(0), 4);
    }

    private static void termsIIIComesThenAsks() {
        CHECK.of("Terms III", "What is due on a DAY comes as that DAY begins, then ASKS are sent.");
        ConsulDesk desk = sent(4, 5);
        desk.pass(4);
        for (int number = 0; number < 5; number++) {
            CHECK.due("came with the others: " + number, desk.asked(0, number), 0);
        }
        CHECK.due("no asks", desk.under(1), 0);
        // Number 2 comes on the very day on which number 0, sent again, comes.
        ConsulDesk again = sent(4, 2);
        again.lost(0, 0);
        again.pass(8);
        Desks.tell(again, "fee 1 is 1");
        again.pass(4);
        CHECK.due("both came on day 12", again.came(0, 0) * 100 + again.came(0, 2), 1212);
        CHECK.due("asked once", again.asked(0, 0), 1);
        CHECK.due("all in force", again.force(0), 2);
    }

    private static void termsIIILongPass() {
        CHECK.of("Terms III", "on the first DAY on which a greater one has come and it hasn't");
        ConsulDesk once = sent(60, 2);
        once.lost(0, 0);
        once.pass(180);
        CHECK.due("came in one pass", once.came(0, 0), 180);
        CHECK.due("asked in one pass", once.asked(0, 0), 1);
        ConsulDesk less = sent(60, 2);
        less.lost(0, 0);
        less.pass(179);
        CHECK.due("a day less", less.came(0, 0), -2);
        CHECK.due("on its way again", less.under(0), 1);
    }

    private static void promise7NoneSuch() {
        CHECK.of("Promise 7", "false: 1;");
        Refusal refusal = new Refusal(CHECK, d -> {
            d.port(5);
            d.port(6);
            Desks.tell(d, "fee 1 is 1");
            Desks.tell(d, "fee 1 is 1");
        });
        for (int none : new int[] {-1, 2, 7, 8, 29, 30, Integer.MIN_VALUE, Integer.MAX_VALUE}) {
            refusal.due("lost(" + none + ", 0)", d -> d.lost(none, 0) ? 1 : 0, 1);
            refusal.due("lost(0, " + none + ")", d -> d.lost(0, none) ? 1 : 0, 1);
        }
        for (int port = 0; port < 2; port++) {
            for (int number = 0; number < 2; number++) {
                ConsulDesk desk = sent(5, 1);
                desk.port(6);
                Desks.tell(desk, "fee 1 is 1");
                boolean cameAtOnce = port == 1 && number == 0;
                CHECK.due("lost(" + port + ", " + number + ")", desk.lost(port, number), !cameAtOnce);
                CHECK.due("trouble()", desk.trouble(), cameAtOnce ? 7 : 0);
            }
        }
    }

    private static void promise7CameAlready() {
        CHECK.of("Promise 7", "7 (it has come; or is LOST already)");
        for (int days : DAYS) {
            ConsulDesk desk = sent(days, 1);
            Desks.pass(desk, days - 1);
            CHECK.due("a day ahead of its day, of " + days, desk.lost(0, 0), true);
            CHECK.due("trouble()", desk.trouble(), 0);
            for (int late = 0; late < 2; late++) {
                int more = days + late;
                Refusal refusal = new Refusal(CHECK, d -> {
                    d.port(days);
                    Desks.tell(d, "fee 1 is 1");
                    d.pass(more);
                });
                refusal.due("lost(0, 0) " + late + " behind its day, of " + days, d -> d.lost(0, 0) ? 1 : 0, 7);
            }
        }
    }

    private static void promise7LostAlready() {
        CHECK.of("Promise 7", "or is LOST already");
        Refusal refusal = new Refusal(CHECK, d -> {
            d.port(9);
            d.port(9);
            Desks.tell(d, "fee 1 is 1");
            Desks.tell(d, "fee 1 is 1");
            d.lost(0, 0);
            d.lost(0, 1);
            d.pass(8);
        });
        refusal.due("lost(0, 0)", d -> d.lost(0, 0) ? 1 : 0, 7);
        refusal.due("lost(0, 1)", d -> d.lost(0, 1) ? 1 : 0, 7);
    }

    private static void promise7OnlyThatOne() {
        CHECK.of("Promise 7", "What was sent to a PORT of a number at first is LOST: true");
        ConsulDesk desk = new ConsulDesk();
        desk.port(9);
        desk.port(9);
        Desks.tell(desk, "fee 1 is 1");
        Desks.tell(desk, "fee 1 is 1");
        CHECK.due("lost(0, 1)", desk.lost(0, 1), true);
        desk.pass(9);
        CHECK.due("the other number came", desk.came(0, 0), 9);
        CHECK.due("the lost one", desk.came(0, 1), -2);
        CHECK.due("it came to the other port", desk.came(1, 1), 9);
    }

    private static void promise9None() {
        CHECK.of("Promise 9", "-2 if none is; NONE.");
        ConsulDesk desk = new ConsulDesk();
        desk.port(1);
        desk.port(1);
        CHECK.due("no tariff", desk.force(1), -2);
        for (int none : new int[] {-1, 2, 8, Integer.MIN_VALUE, Integer.MAX_VALUE}) {
            CHECK.due("force(" + none + ")", desk.force(none), -1);
        }
    }

    private static void promise10None() {
        CHECK.of("Promise 10", "-2 if it hasn't; NONE.");
        ConsulDesk desk = sent(1, 2);
        CHECK.due("came(0, 1)", desk.came(0, 1), -2);
        for (int none : new int[] {-1, 2, 8, 29, 30, Integer.MIN_VALUE, Integer.MAX_VALUE}) {
            CHECK.due("came(0, " + none + ")", desk.came(0, none), -1);
            CHECK.due("came(" + none + ", 0)", desk.came(none, 0), -1);
        }
        CHECK.due("came(1, 0)", desk.came(1, 0), -1);
    }

    private static void promise11None() {
        CHECK.of("Promise 11", "How often a PORT ASKED for a number; NONE.");
        ConsulDesk desk = sent(1, 2);
        CHECK.due("asked(0, 1)", desk.asked(0, 1), 0);
        for (int none : new int[] {-1, 2, 8, 29, 30, Integer.MIN_VALUE, Integer.MAX_VALUE}) {
            CHECK.due("asked(0, " + none + ")", desk.asked(0, none), -1);
            CHECK.due("asked(" + none + ", 0)", desk.asked(none, 0), -1);
        }
        CHECK.due("asked(1, 0)", desk.asked(1, 0), -1);
    }

    private static void promise12Whats() {
        CHECK.of("Promise 12", "what 0 out (sent again ones, too; LOST ones not), 1 ASKS, 2 ACCOUNTS; NONE.");
        ConsulDesk desk = sent(60, 3);
        desk.pass(1);
        int[] want = {-1, 3, 0, 1, -1};
        for (int what = -1; what <= 3; what++) {
            CHECK.due("under(" + what + ")", desk.under(what), want[what + 1]);
        }
        CHECK.due("under(least)", desk.under(Integer.MIN_VALUE), -1);
        CHECK.due("under(greatest)", desk.under(Integer.MAX_VALUE), -1);
    }

    private static void promise12Out() {
        CHECK.of("Promise 12", "0 out (sent again ones, too; LOST ones not)");
        ConsulDesk desk = new ConsulDesk();
        for (int port = 0; port < 8; port++) {
            desk.port(60);
        }
        for (int i = 0; i < 30; i++) {
            Desks.tell(desk, "fee 1 is 1");
        }
        CHECK.due("all there can be", desk.under(0), 240);
        for (int number = 0; number < 29; number++) {
            desk.lost(7, number);
        }
        CHECK.due("lost ones not", desk.under(0), 211);
        desk.pass(59);
        CHECK.due("on day 59", desk.under(0), 211);
        desk.pass(1);
        CHECK.due("on day 60", desk.under(0), 0);
        CHECK.due("asks on day 60", desk.under(1), 29);
        desk.pass(60);
        CHECK.due("sent again ones, too", desk.under(0), 29);
        CHECK.due("asks on day 120", desk.under(1), 0);
    }

    private static void promise12Asks() {
        CHECK.of("Promise 12", "1 ASKS");
        ConsulDesk desk = new ConsulDesk();
        desk.port(3);
        desk.port(5);
        Desks.tell(desk, "fee 1 is 1");
        Desks.tell(desk, "fee 1 is 1");
        desk.lost(0, 0);
        desk.lost(1, 0);
        int[] want = {0, 0, 0, 1, 1, 2, 1, 1, 1, 1, 0};
        for (int day = 0; day <= 10; day++) {
            CHECK.due("on day " + day, desk.under(1), want[day]);
            desk.pass(1);
        }
    }

    private static void promise12Accounts() {
        CHECK.of("Promise 12", "2 ACCOUNTS");
        // How far away, opened on which day, on which day: how many.
        int[][] cases = {{1, 0, 0, 0}, {1, 0, 1, 0}, {30, 0, 1, 1}, {30, 0, 29, 1}, {30, 0, 30, 0}, {30, 0, 31, 1},
            {59, 0, 58, 2}, {59, 0, 59, 1}, {60, 0, 59, 2}, {60, 0, 60, 1}, {60, 0, 61, 2}, {60, 0, 89, 2},
            {60, 0, 90, 1}, {60, 0, 91, 2}, {60, 0, 120, 1}, {60, 29, 30, 0}, {60, 29, 31, 1}, {60, 30, 30, 0},
            {60, 30, 31, 1}, {60, 30, 89, 2}, {60, 30, 90, 1}, {60, 31, 60, 0}, {60, 31, 61, 1}, {60, 9000, 9000, 0},
            {60, 9000, 9001, 1}, {1, 9000, 9001, 0}};
        for (int[] c : cases) {
            ConsulDesk desk = new ConsulDesk();
            Desks.pass(desk, c[1]);
            desk.port(c[0]);
            Desks.pass(desk, c[2] - c[1]);
            CHECK.due("of a port " + c[0] + " away, opened on day " + c[1] + ", on day " + c[2], desk.under(2), c[3]);
        }
    }
}
