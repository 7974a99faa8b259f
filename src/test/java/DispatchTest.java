/** Promises 1, 2 and 7 to 12: ports, and what travels between them and home. */
public final class DispatchTest {
    private static final Check CHECK = new Check("DispatchTest");

    public static void main(String[] args) {
        promise1NewObject();
        promise2Port();
        promise2PortOpenedLater();
        promise7Lost();
        promise7LostBeforeAnyoneKnows();
        promise8Pass();
        promise9Force();
        promise10Came();
        promise11Asked();
        severalLost();
        askedForWhenTheNextComes();
        oneLongPassIsManyShort();
        promise12Under();
        promise12Accounts();
        CHECK.end();
    }

    private static void promise1NewObject() {
        ConsulDesk desk = new ConsulDesk();
        for (int what = 0; what < 5; what++) {
            CHECK.due("new count(" + what + ")", desk.count(what), 0);
        }
        CHECK.due("new trouble()", desk.trouble(), 0);
        CHECK.due("new fault()", desk.fault(), 0);
        CHECK.due("new where()", desk.where(), -1);
        CHECK.due("new force(0)", desk.force(0), -1);
        CHECK.due("new paper(0, 0)", desk.paper(0, 0), -1);
        CHECK.due("new under(0)", desk.under(0), 0);
        CHECK.due("new under(2)", desk.under(2), 0);
    }

    private static void promise2Port() {
        ConsulDesk desk = new ConsulDesk();
        for (int days : new int[] {0, 61, -1, Integer.MIN_VALUE, Integer.MAX_VALUE}) {
            CHECK.due("port(" + days + ")", desk.port(days), -1);
            CHECK.due("trouble", desk.trouble(), 2);
        }
        CHECK.due("port(1)", desk.port(1), 0);
        CHECK.due("trouble", desk.trouble(), 0);
        CHECK.due("port(60)", desk.port(60), 1);
        for (int i = 2; i < 8; i++) {
            CHECK.due("port " + i, desk.port(5), i);
        }
        CHECK.due("a ninth", desk.port(5), -1);
        CHECK.due("trouble of a ninth", desk.trouble(), 3);
        CHECK.due("a number ahead of room", desk.port(0), -1);
        CHECK.due("trouble of a number", desk.trouble(), 2);
        CHECK.due("count(0)", desk.count(0), 8);
        CHECK.due("about(1, 0)", desk.about(1, 0), 60);
    }

    private static void promise2PortOpenedLater() {
        ConsulDesk desk = new ConsulDesk();
        Desks.tell(desk, "fee 1 is 1");
        Desks.tell(desk, "fee 1 is 2");
        CHECK.due("nobody to send to", desk.under(0), 0);
        desk.pass(7);
        desk.port(9);
        CHECK.due("came at once", desk.came(0, 0), 7);
        CHECK.due("came at once, too", desk.came(0, 1), 7);
        CHECK.due("in force at once", desk.force(0), 1);
        CHECK.due("lost of what came", desk.lost(0, 1), false);
        CHECK.due("trouble", desk.trouble(), 7);
        Desks.tell(desk, "fee 1 is 3");
        CHECK.due("a later one travels", desk.came(0, 2), -2);
        desk.pass(9);
        CHECK.due("and comes", desk.came(0, 2), 16);
    }

    private static ConsulDesk three(int days) {
        ConsulDesk desk = new ConsulDesk();
        desk.port(days);
        for (int i = 1; i <= 3; i++) {
            Desks.tell(desk, "fee 1 is " + i);
        }
        return desk;
    }

    private static void promise7Lost() {
        ConsulDesk desk = three(4);
        int[][] none = {{1, 0}, {-1, 0}, {0, 3}, {0, -1}, {8, 0}, {0, 30}, {Integer.MAX_VALUE, Integer.MIN_VALUE}};
        for (int[] pair : none) {
            CHECK.due("lost(" + pair[0] + ", " + pair[1] + ")", desk.lost(pair[0], pair[1]), false);
            CHECK.due("trouble", desk.trouble(), 1);
        }
        CHECK.due("lost(0, 1)", desk.lost(0, 1), true);
        CHECK.due("trouble", desk.trouble(), 0);
        CHECK.due("lost already", desk.lost(0, 1), false);
        CHECK.due("trouble of lost already", desk.trouble(), 7);
        desk.pass(3);
        CHECK.due("a day ahead", desk.lost(0, 0), true);
        desk.pass(1);
        CHECK.due("on the day it came", desk.lost(0, 2), false);
        CHECK.due("trouble of come", desk.trouble(), 7);
        desk.pass(4);
        CHECK.due("sent again can't be lost", desk.lost(0, 1), false);
        CHECK.due("trouble of sent again", desk.trouble(), 7);
        desk.pass(4);
        CHECK.due("came though", desk.came(0, 1), 12);
    }

    private static void promise7LostBeforeAnyoneKnows() {
        ConsulDesk desk = three(4);
        desk.lost(0, 2);
        Desks.pass(desk, 1000);
        CHECK.due("nobody asks for the last", desk.asked(0, 2), 0);
        CHECK.due("it does not come", desk.came(0, 2), -2);
        CHECK.due("the one ahead is in force", desk.force(0), 1);
        Desks.tell(desk, "fee 1 is 9");
        desk.pass(4);
        CHECK.due("a greater one came", desk.asked(0, 2), 1);
        CHECK.due("still in force", desk.force(0), 1);
        desk.pass(8);
        CHECK.due("sent again", desk.came(0, 2), 1012);
        CHECK.due("both in force", desk.force(0), 3);
    }

    private static void promise8Pass() {
        ConsulDesk desk = new ConsulDesk();
        for (int days : new int[] {0, -1, 401, Integer.MAX_VALUE, Integer.MIN_VALUE}) {
            CHECK.due("pass(" + days + ")", desk.pass(days), -1);
            CHECK.due("trouble", desk.trouble(), 2);
            CHECK.due("today", desk.count(3), 0);
        }
        CHECK.due("pass(1)", desk.pass(1), 1);
        CHECK.due("pass(399)", desk.pass(399), 400);
        for (int i = 2; i <= 24; i++) {
            CHECK.due("pass(400)", desk.pass(400), 400 * i);
        }
        CHECK.due("pass(399) at the end", desk.pass(399), 9999);
        CHECK.due("pass(2) beyond", desk.pass(2), -1);
        CHECK.due("trouble beyond", desk.trouble(), 2);
        CHECK.due("pass(1) to the last", desk.pass(1), 10000);
        CHECK.due("pass(1) beyond", desk.pass(1), -1);
        CHECK.due("trouble beyond", desk.trouble(), 2);
        CHECK.due("today", desk.count(3), 10000);
    }

    private static void promise9Force() {
        ConsulDesk desk = three(4);
        CHECK.due("no such port", desk.force(1), -1);
        CHECK.due("no such port", desk.force(-1), -1);
        CHECK.due("none yet", desk.force(0), -2);
        desk.lost(0, 1);
        desk.pass(3);
        CHECK.due("none yet", desk.force(0), -2);
        desk.pass(1);
        CHECK.due("a gap holds back", desk.force(0), 0);
        desk.pass(7);
        CHECK.due("still", desk.force(0), 0);
        desk.pass(1);
        CHECK.due("all", desk.force(0), 2);
    }

    private static void promise10Came() {
        ConsulDesk desk = three(4);
        CHECK.due("no such port", desk.came(1, 0), -1);
        CHECK.due("no such number", desk.came(0, 3), -1);
        CHECK.due("below", desk.came(0, -1), -1);
        CHECK.due("port below", desk.came(-1, 0), -1);
        desk.pass(3);
        CHECK.due("not yet", desk.came(0, 0), -2);
        desk.pass(400);
        CHECK.due("came", desk.came(0, 0), 4);
    }

    private static void promise11Asked() {
        ConsulDesk desk = three(4);
        desk.lost(0, 0);
        CHECK.due("no such port", desk.asked(1, 0), -1);
        CHECK.due("no such number", desk.asked(0, 3), -1);
        CHECK.due("below", desk.asked(-1, -1), -1);
        desk.pass(3);
        CHECK.due("not yet", desk.asked(0, 0), 0);
        desk.pass(1);
        CHECK.due("asked", desk.asked(0, 0), 1);
        CHECK.due("not for what came", desk.asked(0, 1), 0);
        Desks.tell(desk, "fee 1 is 4");
        desk.pass(30);
        CHECK.due("once", desk.asked(0, 0), 1);
    }

    private static void severalLost() {
        ConsulDesk desk = three(5);
        desk.lost(0, 0);
        desk.lost(0, 1);
        desk.pass(2);
        Desks.tell(desk, "fee 1 is 4");
        desk.lost(0, 3);
        desk.pass(3);
        CHECK.due("two asks on one day", desk.under(1), 2);
        CHECK.due("none for the greater", desk.asked(0, 3), 0);
        desk.pass(10);
        CHECK.due("came 0", desk.came(0, 0), 15);
        CHECK.due("came 1", desk.came(0, 1), 15);
        CHECK.due("the fourth is lost and not asked for", desk.asked(0, 3), 0);
        CHECK.due("in force", desk.force(0), 2);
    }

    private static void askedForWhenTheNextComes() {
        ConsulDesk desk = new ConsulDesk();
        desk.port(10);
        for (int i = 0; i < 4; i++) {
            Desks.tell(desk, "fee 1 is 1");
            desk.pass(2);
        }
        desk.lost(0, 0);
        desk.lost(0, 1);
        desk.lost(0, 2);
        desk.pass(7);
        CHECK.due("nothing has come by day 15", desk.asked(0, 0), 0);
        desk.pass(1);
        CHECK.due("asked on day 16", desk.asked(0, 0), 1);
        CHECK.due("asks", desk.under(1), 3);
        desk.pass(19);
        CHECK.due("day 35", desk.came(0, 0), -2);
        CHECK.due("in force on day 35", desk.force(0), -2);
        desk.pass(1);
        CHECK.due("day 36", desk.came(0, 0), 36);
        CHECK.due("in force on day 36", desk.force(0), 3);
    }

    private static void oneLongPassIsManyShort() {
        ConsulDesk once = three(7);
        ConsulDesk daily = three(7);
        once.lost(0, 0);
        daily.lost(0, 0);
        once.pass(40);
        for (int i = 0; i < 40; i++) {
            daily.pass(1);
        }
        CHECK.due("came", once.came(0, 0), 21);
        CHECK.due("came daily", daily.came(0, 0), 21);
        CHECK.due("accounts", once.about(0, 3), 2);
        CHECK.due("accounts daily", daily.about(0, 3), 2);
    }

    private static void promise12Under() {
        ConsulDesk desk = new ConsulDesk();
        desk.port(3);
        desk.port(6);
        Desks.tell(desk, "fee 1 is 1");
        Desks.tell(desk, "fee 1 is 2");
        CHECK.due("what -1", desk.under(-1), -1);
        CHECK.due("what 3", desk.under(3), -1);
        CHECK.due("out", desk.under(0), 4);
        desk.lost(0, 0);
        desk.lost(1, 0);
        CHECK.due("lost ones not", desk.under(0), 2);
        int[][] days = {{2, 0}, {2, 0}, {1, 1}, {1, 1}, {1, 1}, {1, 1}, {1, 1}, {1, 1}, {0, 1}, {0, 1}, {0, 1},
            {1, 0}, {1, 0}, {1, 0}, {1, 0}, {1, 0}, {1, 0}, {0, 0}};
        for (int day = 1; day <= 18; day++) {
            desk.pass(1);
            CHECK.due("out on day " + day, desk.under(0), days[day - 1][0]);
            CHECK.due("asks on day " + day, desk.under(1), days[day - 1][1]);
        }
    }

    private static void promise12Accounts() {
        ConsulDesk desk = new ConsulDesk();
        desk.port(1);
        desk.port(40);
        CHECK.due("today's goes when it is over", desk.under(2), 0);
        desk.pass(1);
        CHECK.due("one a day away has come", desk.under(2), 1);
        desk.pass(29);
        CHECK.due("day 30", desk.under(2), 1);
        desk.pass(1);
        CHECK.due("day 31", desk.under(2), 2);
        desk.pass(8);
        CHECK.due("day 39", desk.under(2), 2);
        desk.pass(1);
        CHECK.due("day 40", desk.under(2), 1);
        desk.port(2);
        desk.pass(20);
        CHECK.due("day 60", desk.under(2), 1);
        desk.pass(1);
        CHECK.due("day 61", desk.under(2), 3);
        CHECK.due("opened on day 40: one sent", desk.about(2, 3), 1);
    }
}
