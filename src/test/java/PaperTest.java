/** Promises 13 to 18: stamps, fees, papers, and what is told of them and of ports. */
public final class PaperTest {
    private static final Check CHECK = new Check("PaperTest");

    public static void main(String[] args) {
        promise13Stock();
        promise13BelowNone();
        promise14Fee();
        promise14Sums();
        promise14Tests();
        promise14Refused();
        promise15Seal();
        promise15Refused();
        promise15NoRoom();
        promise15Stamps();
        sealedCountsPapersAhead();
        promise16Paper();
        promise17Stamps();
        promise18About();
        CHECK.end();
    }

    private static void promise13Stock() {
        ConsulDesk desk = new ConsulDesk();
        CHECK.due("no port", desk.stock(0, 0, 1), -1);
        CHECK.due("trouble", desk.trouble(), 1);
        desk.port(1);
        int[][] none = {{1, 0}, {-1, 0}, {0, 5}, {0, -1}, {Integer.MIN_VALUE, Integer.MAX_VALUE}};
        for (int[] pair : none) {
            CHECK.due("stock(" + pair[0] + ", " + pair[1] + ", 1)", desk.stock(pair[0], pair[1], 1), -1);
            CHECK.due("trouble", desk.trouble(), 1);
        }
        CHECK.due("none such ahead of a number", desk.stock(0, 5, 10001), -1);
        CHECK.due("trouble", desk.trouble(), 1);
        for (int many : new int[] {10001, -1, Integer.MAX_VALUE, Integer.MIN_VALUE}) {
            CHECK.due("stock(0, 0, " + many + ")", desk.stock(0, 0, many), -1);
            CHECK.due("trouble", desk.trouble(), 2);
        }
        CHECK.due("none more", desk.stock(0, 0, 0), 0);
        CHECK.due("trouble", desk.trouble(), 0);
        CHECK.due("all there can be", desk.stock(0, 0, 10000), 10000);
        CHECK.due("one more", desk.stock(0, 0, 1), -1);
        CHECK.due("much more", desk.stock(0, 0, Integer.MAX_VALUE), -1);
        CHECK.due("trouble", desk.trouble(), 2);
        CHECK.due("it stays", desk.about(0, 4), 10000);
        CHECK.due("none more to all", desk.stock(0, 0, 0), 10000);
        CHECK.due("trouble", desk.trouble(), 0);
        CHECK.due("another worth", desk.stock(0, 4, 7), 7);
        CHECK.due("and more", desk.stock(0, 4, 3), 10);
        CHECK.due("up to all there can be", desk.stock(0, 4, 9990), 10000);
    }

    private static void promise13BelowNone() {
        ConsulDesk desk = new ConsulDesk();
        desk.port(1);
        desk.stock(0, 0, 10000);
        desk.stock(0, 1, 1);
        for (int many : new int[] {-1, -2, -9999, -10000, -10001, Integer.MIN_VALUE}) {
            for (int worth = 0; worth < 3; worth++) {
                CHECK.due("stock(0, " + worth + ", " + many + ")", desk.stock(0, worth, many), -1);
                CHECK.due("trouble", desk.trouble(), 2);
            }
            CHECK.due("none such ahead of a number", desk.stock(1, 0, many), -1);
            CHECK.due("trouble", desk.trouble(), 1);
        }
        CHECK.due("all stay", desk.about(0, 4), 10000);
        CHECK.due("the one stays", desk.about(0, 5), 1);
        CHECK.due("none stay none", desk.about(0, 6), 0);
    }

    private static void fee(String text, int kind, int value, int sheets, int want) {
        ConsulDesk desk = new ConsulDesk();
        desk.port(1);
        desk.port(1);
        desk.port(1);
        Desks.tell(desk, text);
        CHECK.due("\"" + text + "\" of " + kind + ", " + value + ", " + sheets,
            desk.fee(0, 2, kind, value, sheets), want);
        CHECK.due("trouble", desk.trouble(), 0);
    }

    private static void promise14Fee() {
        fee("fee 1 is 7", 1, 0, 1, 7);
        fee("fee 1 is 7", 2, 0, 1, -2);
        fee("fee 0 is 1;fee 9 is 2;fee 9 is 3", 9, 0, 1, 2);
        fee("fee 0 is 1;fee 9 is 2;fee 9 is 3", 0, 0, 1, 1);
        fee("fee 1 when value<5 is 1;fee 1 when value<9 is 2", 1, 4, 1, 1);
        fee("fee 1 when value<5 is 1;fee 1 when value<9 is 2", 1, 5, 1, 2);
        fee("fee 1 when value<5 is 1;fee 1 when value<9 is 2", 1, 9, 1, -2);
        fee("fee 1 is value", 1, 4999, 1, 4999);
        fee("fee 1 is value", 1, 5000, 1, 5000);
        fee("fee 1 is value", 1, 5001, 1, 5000);
        fee("fee 1 is 999*value+999*value+999*value+999*value", 1, 9999, 99, 5000);
        fee("fee 1 is 0", 1, 9999, 99, 0);
    }

    private static void promise14Sums() {
        fee("fee 1 is value+sheets+port+sealed", 1, 100, 20, 122);
        fee("fee 1 is 3*sheets/2", 1, 0, 3, 4);
        fee("fee 1 is sheets/2", 1, 0, 3, 1);
        fee("fee 1 is sheets/2+sheets/2", 1, 0, 3, 2);
        fee("fee 1 is 2*value/50", 1, 49, 1, 1);
        fee("fee 1 is 2*value/50+7", 1, 24, 1, 7);
        fee("fee 1 is 10+20+30+40", 1, 0, 1, 100);
        fee("fee 1 is 010+port", 1, 0, 1, 12);
    }

    private static void promise14Tests() {
        fee("fee 1 when value=5 is 1;fee 1 is 2", 1, 5, 1, 1);
        fee("fee 1 when value=5 is 1;fee 1 is 2", 1, 6, 1, 2);
        fee("fee 1 when value>5 is 1;fee 1 is 2", 1, 5, 1, 2);
        fee("fee 1 when value>5 is 1;fee 1 is 2", 1, 6, 1, 1);
        fee("fee 1 when port=2 and sheets>1 and value<9 and sealed=0 is 1;fee 1 is 2", 1, 8, 2, 1);
        fee("fee 1 when port=2 and sheets>1 and value<9 and sealed=1 is 1;fee 1 is 2", 1, 8, 2, 2);
        fee("fee 1 when port=3 and sheets>1 and value<9 and sealed=0 is 1;fee 1 is 2", 1, 8, 2, 2);
    }

    private static void promise14Refused() {
        ConsulDesk desk = Desks.ready("fee 1 is 1");
        int[][] calls = {{1, 0, 1, 1, 1, 1}, {-1, 0, 1, 1, 1, 1}, {0, 1, 1, 1, 1, 1}, {0, -1, 1, 1, 1, 1},
            {1, 0, 10, 1, 1, 1}, {0, 0, 10, 1, 1, 2}, {0, 0, -1, 1, 1, 2}, {0, 0, 1, -1, 1, 2},
            {0, 0, 1, 10000, 1, 2}, {0, 0, 1, 1, 0, 2}, {0, 0, 1, 1, 100, 2}, {0, 0, 5, 1, 0, 2}};
        for (int[] c : calls) {
            CHECK.due("fee(" + c[0] + ", " + c[1] + ", " + c[2] + ", " + c[3] + ", " + c[4] + ")",
                desk.fee(c[0], c[1], c[2], c[3], c[4]), -1);
            CHECK.due("trouble", desk.trouble(), c[5]);
        }
        CHECK.due("the edges", desk.fee(0, 0, 1, 9999, 99), 1);
        CHECK.due("a kind without a line", desk.fee(0, 0, 9, 0, 1), -2);
        CHECK.due("that isn't refused", desk.trouble(), 0);
    }

    private static void promise15Seal() {
        ConsulDesk desk = Desks.ready("fee 1 is 7;fee 2 is 0");
        Desks.stockAll(desk, 0, 1);
        CHECK.due("seal", desk.seal(0, 1, 5, 6), 0);
        CHECK.due("trouble", desk.trouble(), 0);
        CHECK.due("chest", desk.about(0, 1), 7);
        CHECK.due("no stamps make it again", desk.seal(0, 1, 5, 6), -1);
        CHECK.due("trouble", desk.trouble(), 6);
        CHECK.due("chest stays", desk.about(0, 1), 7);
        CHECK.due("a fee of 0 needs none", desk.seal(0, 2, 5, 6), 1);
        CHECK.due("trouble", desk.trouble(), 0);
        CHECK.due("its stamps", desk.paper(1, 7), 0);
        Desks.tell(desk, "fee 2 is 1");
        CHECK.due("by what is in force there", desk.seal(0, 2, 0, 1), 2);
        CHECK.due("tariff", desk.paper(2, 6), 0);
        desk.pass(1);
        CHECK.due("the new one has come", desk.seal(0, 2, 0, 1), 3);
        CHECK.due("tariff", desk.paper(3, 6), 1);
        CHECK.due("fee", desk.paper(3, 5), 1);
    }

    private static void promise15Refused() {
        ConsulDesk desk = new ConsulDesk();
        CHECK.due("no port", desk.seal(0, 10, 0, 0), -1);
        CHECK.due("trouble", desk.trouble(), 1);
        desk.port(2);
        CHECK.due("no tariff in force", desk.seal(0, 1, 1, 1), -1);
        CHECK.due("trouble", desk.trouble(), 5);
        int[][] numbers = {{10, 1, 1}, {-1, 1, 1}, {1, -1, 1}, {1, 10000, 1}, {1, 1, 0}, {1, 1, 100}};
        for (int[] n : numbers) {
            CHECK.due("a number ahead of 5", desk.seal(0, n[0], n[1], n[2]), -1);
            CHECK.due("trouble", desk.trouble(), 2);
        }
        Desks.tell(desk, "fee 1 is 7");
        CHECK.due("not there yet", desk.seal(0, 1, 1, 1), -1);
        CHECK.due("trouble", desk.trouble(), 5);
        desk.pass(2);
        CHECK.due("no line", desk.seal(0, 2, 1, 1), -1);
        CHECK.due("trouble", desk.trouble(), 5);
        CHECK.due("no stamps", desk.seal(0, 1, 1, 1), -1);
        CHECK.due("trouble", desk.trouble(), 6);
        CHECK.due("count(2)", desk.count(2), 0);
        CHECK.due("papers of it", desk.about(0, 2), 0);
    }

    private static void promise15NoRoom() {
        ConsulDesk desk = Desks.ready("fee 1 is 1");
        desk.stock(0, 0, 200);
        for (int i = 0; i < 200; i++) {
            CHECK.due("seal " + i, desk.seal(0, 1, i, 1), i);
        }
        CHECK.due("no stamps ahead of no room", desk.seal(0, 1, 0, 1), -1);
        CHECK.due("trouble", desk.trouble(), 6);
        desk.stock(0, 0, 5);
        CHECK.due("no room", desk.seal(0, 1, 0, 1), -1);
        CHECK.due("trouble", desk.trouble(), 3);
        CHECK.due("the stock stays", desk.about(0, 4), 5);
        CHECK.due("the chest stays", desk.about(0, 1), 200);
        CHECK.due("no line ahead of no room", desk.seal(0, 2, 0, 1), -1);
        CHECK.due("trouble", desk.trouble(), 5);
        CHECK.due("count(2)", desk.count(2), 200);
    }

    private static void taken(int fee, int[] stock, int[] want) {
        ConsulDesk desk = Desks.ready("fee 1 is value");
        for (int worth = 0; worth < 5; worth++) {
            desk.stock(0, worth, stock[worth]);
        }
        CHECK.due("seal for " + fee, desk.seal(0, 1, fee, 1), want == null ? -1 : 0);
        CHECK.due("trouble for " + fee, desk.trouble(), want == null ? 6 : 0);
        for (int worth = 0; worth < 5; worth++) {
            CHECK.due("stamps for " + fee + " of " + worth, desk.stamps(0, worth), want == null ? -1 : want[worth]);
            CHECK.due("left for " + fee + " of " + worth, desk.about(0, 4 + worth),
                stock[worth] - (want == null ? 0 : want[worth]));
        }
    }

    private static void promise15Stamps() {
        taken(88, new int[] {9, 9, 9, 9, 9}, new int[] {1, 1, 1, 3, 1});
        taken(6, new int[] {0, 3, 1, 0, 0}, new int[] {0, 3, 0, 0, 0});
        taken(6, new int[] {1, 3, 1, 0, 0}, new int[] {1, 0, 1, 0, 0});
        taken(56, new int[] {0, 3, 1, 0, 1}, new int[] {0, 3, 0, 0, 1});
        taken(53, new int[] {0, 24, 1, 0, 1}, new int[] {0, 24, 1, 0, 0});
        taken(60, new int[] {0, 0, 0, 6, 1}, new int[] {0, 0, 0, 1, 1});
        taken(60, new int[] {9, 0, 0, 6, 1}, new int[] {0, 0, 0, 1, 1});
        taken(16, new int[] {0, 8, 1, 1, 0}, new int[] {0, 3, 0, 1, 0});
        taken(13, new int[] {0, 4, 1, 1, 0}, new int[] {0, 4, 1, 0, 0});
        taken(21, new int[] {0, 8, 1, 2, 0}, new int[] {0, 3, 1, 1, 0});
        taken(3, new int[] {0, 9, 9, 9, 9}, null);
        taken(4, new int[] {3, 0, 9, 9, 9}, null);
        taken(5000, new int[] {0, 0, 0, 0, 100}, new int[] {0, 0, 0, 0, 100});
        taken(5000, new int[] {0, 0, 0, 0, 99}, null);
        taken(5000, new int[] {5000, 0, 0, 0, 0}, new int[] {5000, 0, 0, 0, 0});
        taken(9999, new int[] {1, 2, 1, 4, 99}, new int[] {1, 2, 1, 4, 99});
    }

    private static void sealedCountsPapersAhead() {
        ConsulDesk desk = new ConsulDesk();
        desk.port(1);
        desk.port(1);
        Desks.tell(desk, "fee 1 is 10*sealed+port");
        desk.pass(1);
        desk.stock(0, 3, 9);
        desk.stock(1, 3, 9);
        desk.stock(1, 0, 9);
        CHECK.due("first of 0", desk.paper(desk.seal(0, 1, 0, 1), 5), 0);
        CHECK.due("first of 1", desk.paper(desk.seal(1, 1, 0, 1), 5), 1);
        CHECK.due("second of 1", desk.paper(desk.seal(1, 1, 0, 1), 5), 11);
        CHECK.due("second of 0", desk.paper(desk.seal(0, 1, 0, 1), 5), 10);
        CHECK.due("fee of a third", desk.fee(0, 0, 1, 0, 1), 20);
        CHECK.due("home's of the first stays", desk.homes(0), 0);
        CHECK.due("home's of the fourth", desk.homes(3), 10);
    }

    private static void promise16Paper() {
        ConsulDesk desk = new ConsulDesk();
        desk.port(2);
        desk.port(3);
        Desks.tell(desk, "fee 4 is 1");
        Desks.tell(desk, "fee 4 is 68");
        desk.pass(5);
        Desks.stockAll(desk, 1, 5);
        CHECK.due("seal", desk.seal(1, 4, 321, 12), 0);
        int[] want = {1, 4, 321, 12, 5, 68, 1, 5, -2};
        for (int what = 0; what < 9; what++) {
            CHECK.due("paper(0, " + what + ")", desk.paper(0, what), want[what]);
        }
        CHECK.due("what 9", desk.paper(0, 9), -1);
        CHECK.due("what -1", desk.paper(0, -1), -1);
        CHECK.due("no such paper", desk.paper(1, 0), -1);
        CHECK.due("no such paper", desk.paper(-1, 8), -1);
        desk.pass(27);
        CHECK.due("not known on day 32", desk.paper(0, 8), -2);
        desk.pass(1);
        CHECK.due("known on day 33", desk.paper(0, 8), 33);
        desk.pass(100);
        CHECK.due("known since", desk.paper(0, 8), 33);
    }

    private static void promise17Stamps() {
        ConsulDesk desk = Desks.ready("fee 1 is 68");
        Desks.stockAll(desk, 0, 5);
        desk.seal(0, 1, 0, 1);
        int[] want = {1, 1, 1, 1, 1};
        for (int worth = 0; worth < 5; worth++) {
            CHECK.due("stamps(0, " + worth + ")", desk.stamps(0, worth), want[worth]);
        }
        CHECK.due("worth 5", desk.stamps(0, 5), -1);
        CHECK.due("worth -1", desk.stamps(0, -1), -1);
        CHECK.due("no such paper", desk.stamps(1, 0), -1);
        CHECK.due("no such paper", desk.stamps(-1, 0), -1);
    }

    private static void promise18About() {
        ConsulDesk desk = Desks.ready("fee 1 is 68");
        for (int worth = 0; worth < 5; worth++) {
            desk.stock(0, worth, 10 * worth + 3);
        }
        desk.seal(0, 1, 0, 1);
        desk.seal(0, 1, 0, 1);
        int[] want = {1, 136, 2, 1, 1, 11, 21, 31, 41};
        for (int what = 0; what < 9; what++) {
            CHECK.due("about(0, " + what + ")", desk.about(0, what), want[what]);
        }
        CHECK.due("what 9", desk.about(0, 9), -1);
        CHECK.due("what -1", desk.about(0, -1), -1);
        CHECK.due("what far below", desk.about(0, Integer.MIN_VALUE), -1);
        CHECK.due("no such port", desk.about(1, 0), -1);
        CHECK.due("no such port", desk.about(-1, 0), -1);
        desk.pass(29);
        CHECK.due("accounts on day 30", desk.about(0, 3), 1);
        desk.pass(1);
        CHECK.due("accounts on day 31", desk.about(0, 3), 2);
        desk.port(1);
        CHECK.due("opened on day 31", desk.about(1, 3), 0);
        desk.pass(29);
        CHECK.due("on day 60", desk.about(1, 3), 0);
        desk.pass(1);
        CHECK.due("on day 61", desk.about(1, 3), 1);
    }
}
