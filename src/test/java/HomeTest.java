/** Promises 19 to 25: what is known at home, home's fees, counts and trouble. */
public final class HomeTest {
    private static final Check CHECK = new Check("HomeTest");

    public static void main(String[] args) {
        promise19Known();
        promise19OfTheDayItself();
        promise20Sum();
        promise21Homes();
        promise22Difference();
        promise23Unlike();
        promise24Count();
        promise25Trouble();
        promise25CallsThatOnlyTell();
        CHECK.end();
    }

    /** Port 0 two days away with papers for 1 (day 2), 2 (day 30), 3 (day 31); it is day 31. */
    private static ConsulDesk sealed() {
        ConsulDesk desk = new ConsulDesk();
        desk.port(2);
        desk.port(9);
        Desks.tell(desk, "fee 1 is value");
        desk.pass(2);
        desk.stock(0, 0, 100);
        desk.seal(0, 1, 1, 1);
        desk.pass(28);
        desk.seal(0, 1, 2, 1);
        desk.pass(1);
        desk.seal(0, 1, 3, 1);
        return desk;
    }

    private static void promise19Known() {
        ConsulDesk desk = sealed();
        CHECK.due("day 31", desk.known(0, 31), 0);
        CHECK.due("behind today", desk.known(0, 32), -1);
        desk.pass(1);
        CHECK.due("day 32, that day's account", desk.known(0, 32), 2);
        CHECK.due("day 31 from behind", desk.known(0, 31), 0);
        CHECK.due("day 0", desk.known(0, 0), 0);
        CHECK.due("a day below 0", desk.known(0, -1), -1);
        CHECK.due("no such port", desk.known(2, 0), -1);
        CHECK.due("no such port", desk.known(-1, 0), -1);
        CHECK.due("another port", desk.known(1, 32), 0);
        desk.pass(30);
        CHECK.due("day 62", desk.known(0, 62), 3);
        CHECK.due("day 61", desk.known(0, 61), 2);
        CHECK.due("far behind today", desk.known(0, Integer.MAX_VALUE), -1);
    }

    private static void promise19OfTheDayItself() {
        ConsulDesk desk = new ConsulDesk();
        Desks.tell(desk, "fee 1 is 0");
        desk.port(1);
        CHECK.due("sealed on day 0", desk.seal(0, 1, 0, 1), 0);
        CHECK.due("day 0", desk.known(0, 0), 0);
        desk.pass(1);
        CHECK.due("its account went as day 0 was over", desk.known(0, 1), 1);
        CHECK.due("known on", desk.paper(0, 8), 1);
        CHECK.due("sealed on day 1", desk.seal(0, 1, 0, 1), 1);
        desk.pass(29);
        CHECK.due("day 30", desk.known(0, 30), 1);
        desk.pass(1);
        CHECK.due("day 31", desk.known(0, 31), 2);
    }

    private static void promise20Sum() {
        ConsulDesk desk = sealed();
        CHECK.due("day 31", desk.sum(0, 31), 0);
        CHECK.due("behind today", desk.sum(0, 32), -1);
        desk.pass(31);
        CHECK.due("day 32", desk.sum(0, 32), 3);
        CHECK.due("day 61", desk.sum(0, 61), 3);
        CHECK.due("day 62", desk.sum(0, 62), 6);
        CHECK.due("another port", desk.sum(1, 62), 0);
        CHECK.due("no such port", desk.sum(2, 62), -1);
        CHECK.due("a day below 0", desk.sum(0, -1), -1);
    }

    private static void promise21Homes() {
        ConsulDesk desk = new ConsulDesk();
        desk.port(5);
        Desks.tell(desk, "fee 1 is 1");
        desk.pass(5);
        desk.stock(0, 0, 9);
        desk.seal(0, 1, 40, 1);
        CHECK.due("the same tariff", desk.homes(0), 1);
        Desks.tell(desk, "fee 1 is value/2");
        CHECK.due("that day's, too", desk.homes(0), 20);
        Desks.tell(desk, "fee 2 is 1");
        CHECK.due("can't seal it", desk.homes(0), -10000);
        Desks.tell(desk, "fee 1 is 3");
        desk.pass(1);
        Desks.tell(desk, "fee 1 is 4");
        CHECK.due("the next day's not", desk.homes(0), 3);
        CHECK.due("no such paper", desk.homes(1), -10000);
        CHECK.due("no such paper", desk.homes(-1), -10000);
        CHECK.due("a later paper", desk.seal(0, 1, 0, 1), 1);
        CHECK.due("its home's", desk.homes(1), 4);
        CHECK.due("its own", desk.paper(1, 5), 1);
    }

    /** Papers for 5 where home's would be 7, none, 1 and 5; it is day 30 + 20, known in full. */
    private static ConsulDesk compared() {
        ConsulDesk desk = new ConsulDesk();
        desk.port(20);
        desk.port(1);
        Desks.tell(desk, "fee 1 is 5");
        desk.pass(20);
        desk.stock(0, 2, 9);
        Desks.tell(desk, "fee 1 when value=1 is 7;fee 1 when value=3 is 1;fee 1 when value=4 is 5");
        for (int value = 1; value <= 4; value++) {
            desk.seal(0, 1, value, 1);
        }
        desk.pass(29);
        return desk;
    }

    private static void promise22Difference() {
        ConsulDesk desk = compared();
        CHECK.due("not known yet", desk.difference(0), 0);
        desk.pass(1);
        CHECK.due("known", desk.difference(0), 2);
        CHECK.due("another port", desk.difference(1), 0);
        CHECK.due("no such port", desk.difference(2), 0);
        CHECK.due("no such port", desk.difference(-1), 0);
        ConsulDesk less = Desks.ready("fee 1 is 5");
        less.stock(0, 2, 9);
        less.seal(0, 1, 0, 1);
        Desks.tell(less, "fee 1 is 9");
        less.pass(30);
        CHECK.due("less than home's", less.difference(0), -4);
    }

    private static void promise23Unlike() {
        ConsulDesk desk = compared();
        CHECK.due("not known yet", desk.unlike(0), 0);
        desk.pass(1);
        CHECK.due("two others and one without", desk.unlike(0), 3);
        CHECK.due("another port", desk.unlike(1), 0);
        CHECK.due("no such port", desk.unlike(2), -1);
        CHECK.due("no such port", desk.unlike(-1), -1);
    }

    private static void promise24Count() {
        ConsulDesk desk = compared();
        Desks.feed(desk, "fee 1");
        int[] want = {2, 2, 4, 49, 20};
        for (int what = 0; what < 5; what++) {
            CHECK.due("count(" + what + ")", desk.count(what), want[what]);
        }
        CHECK.due("count(5)", desk.count(5), -1);
        CHECK.due("count(-1)", desk.count(-1), -1);
    }

    private static void promise25Trouble() {
        ConsulDesk desk = new ConsulDesk();
        CHECK.due("new", desk.trouble(), 0);
        desk.lost(0, 0);
        CHECK.due("1", desk.trouble(), 1);
        desk.pass(0);
        CHECK.due("2", desk.trouble(), 2);
        desk.pass(1);
        CHECK.due("0 behind pass", desk.trouble(), 0);
        for (int i = 0; i < 9; i++) {
            desk.port(1);
        }
        CHECK.due("3", desk.trouble(), 3);
        desk.tariff(0);
        CHECK.due("4", desk.trouble(), 4);
        desk.stock(0, 0, 1);
        CHECK.due("0 behind stock", desk.trouble(), 0);
        desk.seal(0, 1, 1, 1);
        CHECK.due("5", desk.trouble(), 5);
        Desks.tell(desk, "fee 1 is 2");
        CHECK.due("0 behind tariff", desk.trouble(), 0);
        desk.lost(1, 0);
        CHECK.due("0 behind lost", desk.trouble(), 0);
        desk.lost(1, 0);
        CHECK.due("7", desk.trouble(), 7);
        desk.pass(1);
        desk.seal(0, 1, 1, 1);
        CHECK.due("6", desk.trouble(), 6);
        desk.fee(0, 0, 3, 1, 1);
        CHECK.due("0 behind fee", desk.trouble(), 0);
    }

    private static void promise25CallsThatOnlyTell() {
        ConsulDesk desk = Desks.ready("fee 1 is 1");
        desk.seal(0, 1, 1, 1);
        CHECK.due("6", desk.trouble(), 6);
        desk.fault();
        desk.where();
        desk.force(7);
        desk.came(0, 7);
        desk.asked(0, 0);
        desk.under(5);
        desk.paper(5, 5);
        desk.stamps(0, 0);
        desk.about(0, 0);
        desk.known(0, 99);
        desk.sum(0, 0);
        desk.homes(0);
        desk.difference(9);
        desk.unlike(9);
        desk.count(9);
        desk.feed(0, 0, 0, 0, 0);
        CHECK.due("still 6", desk.trouble(), 6);
    }
}
