/** The edges of accounts and of home's fees in Terms IV, and of promises 19 to 23. */
public final class HomeEdgesTest {
    private static final Check CHECK = new Check("HomeEdgesTest");
    private static final int[] NO_PORTS = {-1, 2, 7, 8, Integer.MIN_VALUE, Integer.MAX_VALUE};

    public static void main(String[] args) {
        termsIVAccountDays();
        termsIVThatDaysPapers();
        termsIVAlsoOfNone();
        termsIVFromThatDay();
        termsIVKnownOnThatDay();
        termsIVGoesWhenOver();
        termsIVLastByTheDay();
        termsIVHomeOverTime();
        termsIVNone();
        promise19Days();
        promise19None();
        promise20Days();
        promise20None();
        promise20All();
        promise21None();
        promise22OnlyKnown();
        promise22WithHomes();
        promise22None();
        promise23Unlike();
        promise23None();
        CHECK.end();
    }

    /** A desk of two ports, so far away, where a paper of each value is for that much; the day is given. */
    private static ConsulDesk open(int days, int day) {
        ConsulDesk desk = new ConsulDesk();
        Desks.tell(desk, "fee 1 is value");
        Desks.pass(desk, day);
        desk.port(days);
        desk.port(days);
        desk.stock(0, 0, 1000);
        desk.stock(1, 0, 1000);
        return desk;
    }

    private static void termsIVAccountDays() {
        CHECK.of("Terms IV", "each DAY that is a multiple of 30");
        int[][] cases = {{0, 0}, {1, 30}, {29, 30}, {30, 30}, {31, 60}, {59, 60}, {60, 60}, {61, 90}, {9960, 9960},
            {9961, 9990}};
        for (int[] c : cases) {
            for (int days : new int[] {1, 10}) {
                ConsulDesk desk = open(days, 0);
                Desks.pass(desk, c[0]);
                desk.seal(0, 1, 1, 1);
                Desks.pass(desk, c[1] + days - 1 - c[0]);
                String name = "sealed on day " + c[0] + ", " + days + " away";
                CHECK.due(name + ": a day ahead", desk.paper(0, 8), -2);
                desk.pass(1);
                CHECK.due(name, desk.paper(0, 8), c[1] + days);
            }
        }
    }

    private static void termsIVThatDaysPapers() {
        CHECK.of("Terms IV", "what it SEALED since the last one (that DAY's papers, too; also of none)");
        ConsulDesk desk = open(5, 0);
        int[] days = {29, 1, 1, 28, 1, 1};
        for (int i = 0; i < days.length; i++) {
            Desks.pass(desk, days[i]);
            desk.seal(0, 1, 1, 1);
        }
        // Sealed on days 29, 30 (told on 35), 31, 59, 60 (told on 65) and 61.
        desk.pass(29);
        int[][] known = {{34, 0}, {35, 2}, {64, 2}, {65, 5}, {90, 5}};
        for (int[] k : known) {
            CHECK.due("known on day " + k[0], desk.known(0, k[0]), k[1]);
        }
        desk.pass(4);
        CHECK.due("known on day 94", desk.known(0, 94), 5);
        desk.pass(1);
        CHECK.due("known on day 95", desk.known(0, 95), 6);
    }

    private static void termsIVAlsoOfNone() {
        CHECK.of("Terms IV", "also of none");
        ConsulDesk desk = open(60, 0);
        desk.pass(31);
        CHECK.due("two ports sent two each", desk.under(2), 4);
        CHECK.due("about(0, 3)", desk.about(0, 3), 2);
        CHECK.due("none is known", desk.known(0, 31), 0);
    }

    private static void termsIVFromThatDay() {
        CHECK.of("Terms IV", "from that on which it was opened, a PORT sends home");
        for (int opened : new int[] {29, 30, 31}) {
            ConsulDesk desk = open(1, opened);
            desk.seal(0, 1, 1, 1);
            int account = opened == 31 ? 60 : 30;
            Desks.pass(desk, account - opened);
            CHECK.due("none sent on its day, opened on " + opened, desk.about(0, 3), 0);
            CHECK.due("not known on its day, opened on " + opened, desk.known(0, account), 0);
            desk.pass(1);
            CHECK.due("sent as it was over, opened on " + opened, desk.about(0, 3), 1);
            CHECK.due("known behind it, opened on " + opened, desk.known(0, account + 1), 1);
        }
    }

    private static void termsIVKnownOnThatDay() {
        CHECK.of("Terms IV", "KNOWN at home on a DAY: papers of ACCOUNTS that have come by then (on that DAY, too).");
        for (int days : new int[] {1, 29, 30, 31, 59, 60}) {
            ConsulDesk desk = open(days, 0);
            desk.seal(0, 1, 7, 1);
            Desks.pass(desk, days - 1);
            CHECK.due("a day ahead, of " + days, desk.known(0, days - 1), 0);
            desk.pass(1);
            CHECK.due("on that day, of " + days, desk.known(0, days), 1);
            CHECK.due("its sum, of " + days, desk.sum(0, days), 7);
            CHECK.due("the day, of " + days, desk.paper(0, 8), days);
        }
    }

    private static void termsIVGoesWhenOver() {
        CHECK.of("Terms IV", "(The ACCOUNT of a DAY goes when that DAY is over, as TODAY becomes the next one.)");
        for (int day : new int[] {0, 30, 9990}) {
            ConsulDesk desk = open(3, 0);
            Desks.pass(desk, day);
            int sent = desk.about(0, 3);
            CHECK.due("on day " + day, sent, day / 30);
            CHECK.due("on their way on day " + day, desk.under(2), 0);
            CHECK.due("sealed on that day", desk.seal(0, 1, 1, 1), 0);
            desk.pass(1);
            CHECK.due("on the next day", desk.about(0, 3), sent + 1);
            CHECK.due("on their way on the next day", desk.under(2), 2);
            desk.pass(2);
            CHECK.due("it has come", desk.paper(0, 8), day + 3);
        }
    }

    private static void termsIVLastByTheDay() {
        CHECK.of("Terms IV", "by the TARIFF told at home last by the DAY it was SEALED (that DAY's, too)");
        ConsulDesk desk = open(60, 4);
        Desks.tell(desk, "fee 1 is 2");
        desk.pass(1);
        desk.seal(0, 1, 1, 1);
        CHECK.due("told on the day ahead", desk.homes(0), 2);
        Desks.tell(desk, "fee 1 is 3");
        CHECK.due("told on that day, behind the seal", desk.homes(0), 3);
        Desks.tell(desk, "fee 1 is 4");
        CHECK.due("the last of that day", desk.homes(0), 4);
        desk.pass(1);
        Desks.tell(desk, "fee 1 is 5");
        CHECK.due("told on the next day", desk.homes(0), 4);
        CHECK.due("its own fee stays", desk.paper(0, 5), 1);
        CHECK.due("its tariff stays", desk.paper(0, 6), 0);
    }

    private static void termsIVHomeOverTime() {
        CHECK.of("Terms IV", "HOME's FEE of a paper");
        ConsulDesk desk = new ConsulDesk();
        Desks.tell(desk, "fee 1 is 2*value+sheets+port+sealed");
        desk.port(1);
        desk.port(60);
        desk.stock(1, 0, 500);
        for (int i = 0; i < 3; i++) {
            desk.seal(1, 1, 10 + i, 5);
        }
        for (int i = 0; i < 3; i++) {
            CHECK.due("home's of " + i, desk.homes(i), 2 * (10 + i) + 5 + 1 + i);
            CHECK.due("its own", desk.paper(i, 5), 2 * (10 + i) + 5 + 1 + i);
        }
        desk.pass(60);
        CHECK.due("difference", desk.difference(1), 0);
        CHECK.due("unlike", desk.unlike(1), 0);
    }

    private static void termsIVNone() {
        CHECK.of("Terms IV", "NONE if that can't seal it.");
        ConsulDesk desk = open(60, 0);
        desk.seal(0, 1, 5, 1);
        desk.seal(0, 1, 6, 1);
        Desks.tell(desk, "fee 1 when value>5 is 0;fee 2 is 1");
        CHECK.due("no line of it", desk.homes(0), ConsulDesk.NO_FEE);
        CHECK.due("a line for nothing", desk.homes(1), 0);
        Desks.tell(desk, "fee 2 is 1");
        CHECK.due("no line of its kind", desk.homes(1), ConsulDesk.NO_FEE);
    }

    private static void promise19Days() {
        CHECK.of("Promise 19", "How many papers of a PORT were KNOWN at home on a DAY (not behind TODAY); NONE.");
        ConsulDesk desk = open(2, 0);
        desk.seal(0, 1, 1, 1);
        CHECK.due("today, day 0", desk.known(0, 0), 0);
        CHECK.due("day 1", desk.known(0, 1), -1);
        CHECK.due("day -1", desk.known(0, -1), -1);
        desk.pass(2);
        CHECK.due("day 0 from day 2", desk.known(0, 0), 0);
        CHECK.due("day 1 from day 2", desk.known(0, 1), 0);
        CHECK.due("today, day 2", desk.known(0, 2), 1);
        CHECK.due("day 3", desk.known(0, 3), -1);
        CHECK.due("the greatest", desk.known(0, Integer.MAX_VALUE), -1);
        CHECK.due("the least", desk.known(0, Integer.MIN_VALUE), -1);
        CHECK.due("the other port", desk.known(1, 2), 0);
    }

    private static void promise19None() {
        CHECK.of("Promise 19", "of a PORT");
        ConsulDesk desk = open(1, 0);
        for (int none : NO_PORTS) {
            CHECK.due("known(" + none + ", 0)", desk.known(none, 0), -1);
        }
    }

    private static void promise20Days() {
        CHECK.of("Promise 20", "FEES of these together; NONE.");
        ConsulDesk desk = open(2, 0);
        desk.seal(0, 1, 7, 1);
        desk.seal(1, 1, 9, 1);
        CHECK.due("today, day 0", desk.sum(0, 0), 0);
        CHECK.due("day 1", desk.sum(0, 1), -1);
        CHECK.due("day -1", desk.sum(0, -1), -1);
        desk.pass(2);
        CHECK.due("day 1 from day 2", desk.sum(0, 1), 0);
        CHECK.due("today, day 2", desk.sum(0, 2), 7);
        CHECK.due("the other port", desk.sum(1, 2), 9);
        CHECK.due("day 3", desk.sum(0, 3), -1);
        CHECK.due("the greatest", desk.sum(0, Integer.MAX_VALUE), -1);
        CHECK.due("the least", desk.sum(0, Integer.MIN_VALUE), -1);
    }

    private static void promise20None() {
        CHECK.of("Promise 20", "NONE.");
        ConsulDesk desk = open(1, 0);
        for (int none : NO_PORTS) {
            CHECK.due("sum(" + none + ", 0)", desk.sum(none, 0), -1);
        }
    }

    private static void promise20All() {
        CHECK.of("Promise 20", "FEES of these together");
        ConsulDesk desk = open(1, 0);
        desk.stock(0, 4, 10000);
        for (int i = 0; i < 100; i++) {
            desk.seal(0, 1, 5000, 1);
        }
        for (int i = 0; i < 100; i++) {
            desk.seal(1, 1, 1, 1);
        }
        desk.pass(1);
        CHECK.due("known", desk.known(0, 1), 100);
        CHECK.due("a hundred for 5,000", desk.sum(0, 1), 500000);
        CHECK.due("a hundred for 1", desk.sum(1, 1), 100);
    }

    private static void promise21None() {
        CHECK.of("Promise 21", "NO_FEE if there is none, or no such paper.");
        ConsulDesk desk = open(1, 0);
        CHECK.due("no paper yet", desk.homes(0), -10000);
        desk.seal(0, 1, 3, 1);
        CHECK.due("homes(0)", desk.homes(0), 3);
        for (int none : new int[] {-1, 1, 199, 200, Integer.MIN_VALUE, Integer.MAX_VALUE}) {
            CHECK.due("homes(" + none + ")", desk.homes(none), -10000);
        }
        Desks.tell(desk, "fee 2 is 1");
        CHECK.due("there is none", desk.homes(0), -10000);
    }

    /** Papers for 5, of values 1 to 4, where home's fee is 7, none, 1 and 5; known on day 50. */
    private static ConsulDesk compared() {
        ConsulDesk desk = new ConsulDesk();
        desk.port(20);
        desk.port(20);
        Desks.tell(desk, "fee 1 is 5");
        desk.pass(20);
        desk.stock(0, 2, 9);
        Desks.tell(desk, "fee 1 when value=1 is 7;fee 1 when value=3 is 1;fee 1 when value=4 is 5");
        for (int value = 1; value <= 4; value++) {
            desk.seal(0, 1, value, 1);
        }
        desk.pass(29);
        return desk;
    }

    private static void promise22OnlyKnown() {
        CHECK.of("Promise 22", "DIFFERENCES of papers KNOWN at home TODAY together");
        ConsulDesk desk = compared();
        CHECK.due("on day 49", desk.difference(0), 0);
        desk.pass(1);
        CHECK.due("on day 50", desk.difference(0), 2);
        CHECK.due("of the other port", desk.difference(1), 0);
        desk.seal(0, 1, 1, 1);
        CHECK.due("one that isn't known yet", desk.difference(0), 2);
    }

    private static void promise22WithHomes() {
        CHECK.of("Promise 22", "(those with a HOME's FEE)");
        ConsulDesk desk = open(1, 0);
        desk.seal(0, 1, 9, 1);
        Desks.tell(desk, "fee 2 is 1");
        desk.pass(1);
        CHECK.due("known", desk.known(0, 1), 1);
        CHECK.due("none with a home's fee", desk.difference(0), 0);
        ConsulDesk nothing = open(1, 0);
        nothing.seal(0, 1, 9, 1);
        Desks.tell(nothing, "fee 1 is 0");
        nothing.pass(1);
        CHECK.due("a home's fee of 0", nothing.difference(0), 9);
        ConsulDesk less = open(1, 0);
        less.seal(0, 1, 0, 1);
        Desks.tell(less, "fee 1 is 9*sheets+value");
        less.pass(1);
        CHECK.due("below 0", less.difference(0), -9);
    }

    private static void promise22None() {
        CHECK.of("Promise 22", "0 for no such one.");
        ConsulDesk desk = compared();
        desk.pass(1);
        for (int none : NO_PORTS) {
            CHECK.due("difference(" + none + ")", desk.difference(none), 0);
        }
    }

    private static void promise23Unlike() {
        CHECK.of("Promise 23", "How many papers KNOWN at home TODAY have a FEE unlike HOME's (or none there)");
        ConsulDesk desk = compared();
        CHECK.due("on day 49", desk.unlike(0), 0);
        desk.pass(1);
        CHECK.due("one more, one less, one none; one like it", desk.unlike(0), 3);
        CHECK.due("of the other port", desk.unlike(1), 0);
        desk.seal(0, 1, 1, 1);
        CHECK.due("one that isn't known yet", desk.unlike(0), 3);
        ConsulDesk near = open(1, 0);
        for (int value = 9; value <= 11; value++) {
            near.seal(0, 1, value, 1);
        }
        Desks.tell(near, "fee 1 is 10");
        near.pass(1);
        CHECK.due("a fee of 9 and of 11, and 10 like it", near.unlike(0), 2);
        CHECK.due("their difference", near.difference(0), 0);
    }

    private static void promise23None() {
        CHECK.of("Promise 23", "NONE for no such PORT.");
        ConsulDesk desk = compared();
        desk.pass(1);
        for (int none : NO_PORTS) {
            CHECK.due("unlike(" + none + ")", desk.unlike(none), -1);
        }
    }
}
