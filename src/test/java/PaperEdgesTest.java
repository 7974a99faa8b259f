/** The edges of sealing in Terms IV and of promises 13 and 15 to 18: stamps, papers, ports. */
public final class PaperEdgesTest {
    private static final Check CHECK = new Check("PaperEdgesTest");
    private static final int[] FAR = {Integer.MIN_VALUE, Integer.MIN_VALUE + 3, Integer.MIN_VALUE + 4,
        Integer.MAX_VALUE};

    public static void main(String[] args) {
        promise13NoneSuch();
        promise13Bounds();
        promise13Then();
        promise13Order();
        promise13RoomAgain();
        termsIVInForceThere();
        termsIVNewlyInForce();
        termsIVExactly();
        termsIVNoStamps();
        termsIVNoFee();
        termsIVFewest();
        termsIVGreatestFirst();
        termsIVAllTheStock();
        termsIVOwnStock();
        termsIVChest();
        promise15Numbers();
        promise15NoneSuch();
        promise15Order();
        promise15NoRoom();
        promise16Whats();
        promise17Worths();
        promise18Whats();
        promise18Accounts();
        CHECK.end();
    }

    private static Refusal onePort() {
        return new Refusal(CHECK, d -> {
            Desks.tell(d, "fee 1 is value");
            d.port(1);
            Desks.stockAll(d, 0, 7);
            d.seal(0, 1, 50, 1);
        });
    }

    private static void promise13NoneSuch() {
        CHECK.of("Promise 13", "NONE: 1 (PORT, WORTH)");
        Refusal refusal = onePort();
        refusal.due("stock(-1, 0, 1)", d -> d.stock(-1, 0, 1), 1);
        refusal.due("stock(1, 0, 1)", d -> d.stock(1, 0, 1), 1);
        refusal.due("stock(8, 0, 1)", d -> d.stock(8, 0, 1), 1);
        refusal.due("stock(0, -1, 1)", d -> d.stock(0, -1, 1), 1);
        refusal.due("stock(0, 5, 1)", d -> d.stock(0, 5, 1), 1);
        for (int none : FAR) {
            refusal.due("stock(" + none + ", 0, 1)", d -> d.stock(none, 0, 1), 1);
            refusal.due("stock(0, " + none + ", 1)", d -> d.stock(0, none, 1), 1);
        }
        ConsulDesk desk = new ConsulDesk();
        desk.port(1);
        CHECK.due("stock(0, 0, 1)", desk.stock(0, 0, 1), 1);
        CHECK.due("stock(0, 4, 2)", desk.stock(0, 4, 2), 2);
        CHECK.due("about(0, 4)", desk.about(0, 4), 1);
        CHECK.due("about(0, 8)", desk.about(0, 8), 2);
    }

    private static void promise13Bounds() {
        CHECK.of("Promise 13", "So many STAMPS (0 .. 10,000 then) of a WORTH");
        for (int worth = 0; worth < 5; worth++) {
            int at = worth;
            for (int many : new int[] {0, 1, 9999, 10000}) {
                ConsulDesk desk = new ConsulDesk();
                desk.port(1);
                CHECK.due("stock(0, " + worth + ", " + many + ")", desk.stock(0, worth, many), many);
                CHECK.due("trouble()", desk.trouble(), 0);
                CHECK.due("about", desk.about(0, 4 + worth), many);
            }
            for (int many : new int[] {-1, 10001, -10000, Integer.MIN_VALUE, Integer.MAX_VALUE}) {
                new Refusal(CHECK, d -> d.port(1)).due("stock(0, " + worth + ", " + many + ") to none",
                    d -> d.stock(0, at, many), 2);
            }
        }
    }

    private static void promise13Then() {
        CHECK.of("Promise 13", "(0 .. 10,000 then)");
        for (int there : new int[] {1, 5000, 9999, 10000}) {
            ConsulDesk desk = new ConsulDesk();
            desk.port(1);
            desk.stock(0, 2, there);
            CHECK.due("none more to " + there, desk.stock(0, 2, 0), there);
            CHECK.due("trouble()", desk.trouble(), 0);
            CHECK.due("as many as there may be", desk.stock(0, 2, 10000 - there), 10000);
            CHECK.due("trouble()", desk.trouble(), 0);
            Refusal refusal = new Refusal(CHECK, d -> {
                d.port(1);
                d.stock(0, 2, there);
            });
            for (int many : new int[] {10001 - there, 10000 + 1, Integer.MAX_VALUE, -1, -there, Integer.MIN_VALUE}) {
                refusal.due("stock(0, 2, " + many + ") to " + there, d -> d.stock(0, 2, many), 2);
            }
        }
    }

    private static void promise13Order() {
        CHECK.of("Promise 13", "NONE: 1 (PORT, WORTH); 2.");
        Refusal refusal = onePort();
        refusal.due("stock(1, 0, -1)", d -> d.stock(1, 0, -1), 1);
        refusal.due("stock(0, 5, 10001)", d -> d.stock(0, 5, 10001), 1);
        refusal.due("stock(0, 4, 10001)", d -> d.stock(0, 4, 10001), 2);
    }

    private static void promise13RoomAgain() {
        CHECK.of("Promise 13", "more come to a PORT's stock: how many it has.");
        ConsulDesk desk = Desks.ready("fee 1 is value");
        desk.stock(0, 0, 10000);
        CHECK.due("seal for 3", desk.seal(0, 1, 3, 1), 0);
        CHECK.due("four more", desk.stock(0, 0, 4), -1);
        CHECK.due("trouble()", desk.trouble(), 2);
        CHECK.due("three more", desk.stock(0, 0, 3), 10000);
    }

    private static void termsIVInForceThere() {
        CHECK.of("Terms IV", "PAPERS are SEALED TODAY in a PORT by the TARIFF IN FORCE there");
        for (int days : new int[] {1, 30, 60}) {
            Refusal refusal = new Refusal(CHECK, d -> {
                d.port(days);
                Desks.tell(d, "fee 1 is 1");
                d.stock(0, 0, 9);
                Desks.pass(d, days - 1);
            });
            refusal.due("seal a day ahead of the tariff, of " + days, d -> d.seal(0, 1, 1, 1), 5);
            ConsulDesk desk = new ConsulDesk();
            desk.port(days);
            Desks.tell(desk, "fee 1 is 1");
            desk.stock(0, 0, 9);
            desk.pass(days);
            CHECK.due("seal on its day, of " + days, desk.seal(0, 1, 1, 1), 0);
            CHECK.due("the day", desk.paper(0, 4), days);
        }
        new Refusal(CHECK, d -> d.port(1)).due("seal without any tariff", d -> d.seal(0, 1, 1, 1), 5);
    }

    private static void termsIVNewlyInForce() {
        CHECK.of("Terms IV", "by the TARIFF IN FORCE there");
        ConsulDesk desk = new ConsulDesk();
        Desks.tell(desk, "fee 1 is 1");
        desk.port(4);
        desk.stock(0, 0, 9);
        Desks.tell(desk, "fee 1 is 2");
        Desks.tell(desk, "fee 1 is 3");
        desk.lost(0, 1);
        int[] days = {0, 3, 1, 7, 1};
        int[] fees = {1, 1, 1, 1, 3};
        for (int i = 0; i < days.length; i++) {
            Desks.pass(desk, days[i]);
            CHECK.due("seal on day " + desk.count(3), desk.seal(0, 1, 0, 1), i);
            CHECK.due("its fee", desk.paper(i, 5), fees[i]);
            CHECK.due("its tariff", desk.paper(i, 6), fees[i] - 1);
        }
    }

    /** A paper of a fee, sealed from a stock of which the taken stamps are due; null: none make it. */
    private static void taken(int fee, int[] stock, int[] want) {
        ConsulDesk desk = Desks.ready("fee 1 is value");
        int many = 0;
        for (int worth = 0; worth < 5; worth++) {
            desk.stock(0, worth, stock[worth]);
            many += want == null ? 0 : want[worth];
        }
        String name = "seal for " + fee + " of " + java.util.Arrays.toString(stock);
        CHECK.due(name, desk.seal(0, 1, fee, 1), want == null ? -1 : 0);
        CHECK.due(name + ", then trouble()", desk.trouble(), want == null ? 6 : 0);
        CHECK.due(name + ", how many", desk.paper(0, 7), want == null ? -1 : many);
        CHECK.due(name + ", the chest", desk.about(0, 1), want == null ? 0 : fee);
        for (int worth = 0; worth < 5; worth++) {
            CHECK.due(name + ", worth " + worth, desk.stamps(0, worth), want == null ? -1 : want[worth]);
            CHECK.due(name + ", left of " + worth, desk.about(0, 4 + worth),
                stock[worth] - (want == null ? 0 : want[worth]));
        }
    }

    private static int[] row(int ones, int twos, int fives, int tens, int fifties) {
        return new int[] {ones, twos, fives, tens, fifties};
    }

    private static void termsIVExactly() {
        CHECK.of("Terms IV", "STAMPS of the PORT's stock that are exactly the FEE together");
        taken(1, row(0, 9, 9, 9, 9), null);
        taken(3, row(0, 9, 9, 9, 9), null);
        taken(4, row(3, 0, 9, 9, 9), null);
        taken(4, row(4, 0, 9, 9, 9), row(4, 0, 0, 0, 0));
        taken(49, row(0, 0, 9, 9, 9), null);
        taken(51, row(0, 0, 9, 9, 9), null);
        taken(7, row(0, 1, 1, 0, 0), row(0, 1, 1, 0, 0));
        taken(8, row(0, 1, 1, 0, 0), null);
        taken(6, row(0, 1, 1, 0, 0), null);
    }

    private static void termsIVNoStamps() {
        CHECK.of("Terms V", "6 no STAMPS that make it");
        taken(1, row(0, 0, 0, 0, 0), null);
        taken(5000, row(0, 0, 0, 0, 99), null);
        taken(5000, row(0, 0, 0, 4, 99), null);
        taken(5000, row(0, 0, 0, 5, 99), row(0, 0, 0, 5, 99));
        taken(5000, row(4999, 0, 0, 0, 0), null);
        taken(5000, row(5000, 0, 0, 0, 0), row(5000, 0, 0, 0, 0));
        taken(4999, row(0, 10000, 0, 0, 0), null);
        taken(4999, row(1, 10000, 0, 0, 0), row(1, 2499, 0, 0, 0));
        new Refusal(CHECK, d -> {
            Desks.tell(d, "fee 1 is value+9");
            d.port(1);
            d.stock(0, 2, 2);
        }).due("seal for 9 of fives", d -> d.seal(0, 1, 0, 1), 6);
    }

    private static void termsIVNoFee() {
        CHECK.of("Terms IV", "its FEE is paid by STAMPS of the PORT's stock");
        taken(0, row(0, 0, 0, 0, 0), row(0, 0, 0, 0, 0));
        taken(0, row(9, 9, 9, 9, 9), row(0, 0, 0, 0, 0));
    }

    private static void termsIVFewest() {
        CHECK.of("Terms IV", "the fewest there can be");
        taken(60, row(0, 0, 0, 6, 1), row(0, 0, 0, 1, 1));
        taken(6, row(1, 3, 1, 0, 0), row(1, 0, 1, 0, 0));
        taken(6, row(0, 3, 1, 0, 0), row(0, 3, 0, 0, 0));
        taken(8, row(3, 4, 1, 0, 0), row(1, 1, 1, 0, 0));
        taken(13, row(0, 4, 1, 1, 0), row(0, 4, 1, 0, 0));
        taken(13, row(3, 4, 1, 1, 0), row(1, 1, 0, 1, 0));
        taken(51, row(0, 30, 1, 0, 2), row(0, 23, 1, 0, 0));
        taken(60, row(0, 30, 0, 0, 2), row(0, 5, 0, 0, 1));
        taken(106, row(0, 3, 1, 0, 2), row(0, 3, 0, 0, 2));
        taken(103, row(0, 30, 1, 0, 2), row(0, 24, 1, 0, 1));
        taken(53, row(0, 4, 1, 5, 1), row(0, 4, 1, 4, 0));
        taken(21, row(0, 8, 1, 2, 0), row(0, 3, 1, 1, 0));
        taken(21, row(0, 8, 2, 2, 0), row(0, 3, 1, 1, 0));
    }

    private static void termsIVGreatestFirst() {
        CHECK.of("Terms IV", "of as few those with more of the greatest WORTH, then of the next one.");
        taken(50, row(50, 25, 10, 5, 1), row(0, 0, 0, 0, 1));
        taken(10, row(10, 5, 2, 1, 0), row(0, 0, 0, 1, 0));
        taken(5, row(5, 2, 1, 0, 0), row(0, 0, 1, 0, 0));
        taken(2, row(2, 1, 0, 0, 0), row(0, 1, 0, 0, 0));
        taken(12, row(2, 1, 2, 1, 0), row(0, 1, 0, 1, 0));
        // The rule has nothing to decide in small stocks: no two choices of one fee are both the fewest.
        CHECK.due("choices as few as the fewest", mostChoices(row(3, 6, 3, 3, 2)), 1);
        CHECK.due("choices as few as the fewest", mostChoices(row(5, 2, 9, 4, 1)), 1);
    }

    /** Of the stocks up to one: how many choices are as few as the fewest of a fee, at most. */
    private static int mostChoices(int[] up) {
        int most = 0;
        for (int stock = 0; stock < (up[0] + 1) * (up[1] + 1) * (up[2] + 1) * (up[3] + 1) * (up[4] + 1); stock++) {
            int[] there = new int[5];
            int rest = stock;
            for (int worth = 0; worth < 5; worth++) {
                there[worth] = rest % (up[worth] + 1);
                rest /= up[worth] + 1;
            }
            most = Math.max(most, choices(there));
        }
        return most;
    }

    private static int choices(int[] stock) {
        int[] fewest = new int[500];
        int[] many = new int[500];
        java.util.Arrays.fill(fewest, 1000);
        for (int fifties = 0; fifties <= stock[4]; fifties++) {
            for (int tens = 0; tens <= stock[3]; tens++) {
                for (int fives = 0; fives <= stock[2]; fives++) {
                    for (int twos = 0; twos <= stock[1]; twos++) {
                        for (int ones = 0; ones <= stock[0]; ones++) {
                            int fee = ones + 2 * twos + 5 * fives + 10 * tens + 50 * fifties;
                            int all = ones + twos + fives + tens + fifties;
                            many[fee] = all < fewest[fee] ? 1 : all == fewest[fee] ? many[fee] + 1 : many[fee];
                            fewest[fee] = Math.min(all, fewest[fee]);
                        }
                    }
                }
            }
        }
        return java.util.Arrays.stream(many).max().getAsInt();
    }

    private static void termsIVAllTheStock() {
        CHECK.of("Terms IV", "STAMPS of the PORT's stock");
        taken(68, row(1, 1, 1, 1, 1), row(1, 1, 1, 1, 1));
        taken(69, row(1, 1, 1, 1, 1), null);
        taken(340, row(5, 5, 5, 5, 5), row(5, 5, 5, 5, 5));
        ConsulDesk desk = Desks.ready("fee 1 is value");
        desk.stock(0, 4, 2);
        CHECK.due("for 50", desk.seal(0, 1, 50, 1), 0);
        CHECK.due("for 50 again", desk.seal(0, 1, 50, 1), 1);
        CHECK.due("a third time", desk.seal(0, 1, 50, 1), -1);
        CHECK.due("trouble()", desk.trouble(), 6);
        CHECK.due("none are left", desk.about(0, 8), 0);
    }

    private static void termsIVOwnStock() {
        CHECK.of("Terms IV", "of the PORT's stock");
        ConsulDesk desk = new ConsulDesk();
        Desks.tell(desk, "fee 1 is 1");
        desk.port(1);
        desk.port(1);
        desk.stock(1, 0, 1);
        CHECK.due("in the port without", desk.seal(0, 1, 0, 1), -1);
        CHECK.due("trouble()", desk.trouble(), 6);
        CHECK.due("in the port with one", desk.seal(1, 1, 0, 1), 0);
    }

    private static void termsIVChest() {
        CHECK.of("Terms IV", "The PORT's CHEST grows by the FEE.");
        ConsulDesk desk = new ConsulDesk();
        Desks.tell(desk, "fee 1 is value");
        desk.port(1);
        desk.port(1);
        desk.stock(0, 4, 10000);
        CHECK.due("at first", desk.about(0, 1), 0);
        for (int i = 1; i <= 100; i++) {
            desk.seal(0, 1, 5000, 1);
        }
        CHECK.due("of a hundred papers for 5,000", desk.about(0, 1), 500000);
        CHECK.due("papers", desk.about(0, 2), 100);
        CHECK.due("stamps", desk.about(0, 8), 0);
        CHECK.due("a refused one", desk.seal(0, 1, 5000, 1), -1);
        CHECK.due("the chest stays", desk.about(0, 1), 500000);
        CHECK.due("for nothing", desk.seal(0, 1, 0, 1), 100);
        CHECK.due("the chest stays", desk.about(0, 1), 500000);
        CHECK.due("the other port's", desk.about(1, 1), 0);
    }

    private static void promise15Numbers() {
        CHECK.of("Promise 15", "A paper is SEALED: its number.");
        ConsulDesk desk = new ConsulDesk();
        Desks.tell(desk, "fee 1 is 0");
        desk.port(1);
        desk.port(1);
        CHECK.due("the first", desk.seal(1, 1, 7, 1), 0);
        CHECK.due("a refused one", desk.seal(0, 2, 7, 1), -1);
        CHECK.due("the next, elsewhere", desk.seal(0, 1, 8, 1), 1);
        CHECK.due("the third", desk.seal(1, 1, 9, 1), 2);
        CHECK.due("ports", desk.paper(0, 0) * 100 + desk.paper(1, 0) * 10 + desk.paper(2, 0), 101);
        CHECK.due("values", desk.paper(0, 2) * 100 + desk.paper(1, 2) * 10 + desk.paper(2, 2), 789);
    }

    private static void promise15NoneSuch() {
        CHECK.of("Promise 15", "NONE: 1;");
        Refusal refusal = onePort();
        for (int none : new int[] {-1, 1, 7, 8, Integer.MIN_VALUE, Integer.MAX_VALUE}) {
            refusal.due("seal(" + none + ", 1, 1, 1)", d -> d.seal(none, 1, 1, 1), 1);
        }
    }

    /** The 200 papers of a full desk are in port 0; port 1 gets no tariff while its first one is lost. */
    private static void fill(ConsulDesk desk) {
        desk.port(1);
        desk.port(1);
        Desks.tell(desk, "fee 1 is value");
        desk.lost(1, 0);
        desk.pass(1);
        desk.stock(0, 0, 5);
        for (int i = 0; i < 200; i++) {
            desk.seal(0, 1, 0, 1);
        }
    }

    private static void promise15Order() {
        CHECK.of("Promise 15", "NONE: 1; 2; 5; 6; 3.");
        Refusal full = new Refusal(CHECK, PaperEdgesTest::fill);
        full.due("1 ahead of 2", d -> d.seal(2, 10, -1, 0), 1);
        full.due("2 ahead of 5, none in force", d -> d.seal(1, 1, 1, 0), 2);
        full.due("2 ahead of 5, no line", d -> d.seal(0, 2, 10000, 1), 2);
        full.due("5 ahead of 6 and 3, none in force", d -> d.seal(1, 1, 6, 1), 5);
        full.due("5 ahead of 6 and 3, no line", d -> d.seal(0, 2, 6, 1), 5);
        full.due("6 ahead of 3", d -> d.seal(0, 1, 6, 1), 6);
        full.due("3", d -> d.seal(0, 1, 5, 1), 3);
    }

    private static void promise15NoRoom() {
        CHECK.of("Terms V", "3 no room");
        ConsulDesk desk = new ConsulDesk();
        fill(desk);
        CHECK.due("a 201st", desk.seal(0, 1, 5, 1), -1);
        CHECK.due("trouble()", desk.trouble(), 3);
        CHECK.due("the stock stays", desk.about(0, 4), 5);
        CHECK.due("the chest stays", desk.about(0, 1), 0);
        CHECK.due("the papers stay", desk.about(0, 2), 200);
        CHECK.due("count(2)", desk.count(2), 200);
        CHECK.due("fee() of a 201st isn't refused", desk.fee(0, 0, 1, 5, 1), 5);
    }

    private static void promise16Whats() {
        CHECK.of("Promise 16", "8 the DAY on which it was KNOWN at home (-2 if it isn't yet); NONE.");
        ConsulDesk desk = Desks.ready("fee 1 is value");
        desk.stock(0, 1, 9);
        desk.seal(0, 1, 4, 9);
        int[] want = {-1, 0, 1, 4, 9, 1, 4, 0, 2, -2, -1};
        for (int what = -1; what <= 9; what++) {
            CHECK.due("paper(0, " + what + ")", desk.paper(0, what), want[what + 1]);
            CHECK.due("paper(-1, " + what + ")", desk.paper(-1, what), -1);
            CHECK.due("paper(1, " + what + ")", desk.paper(1, what), -1);
        }
        for (int none : FAR) {
            CHECK.due("paper(0, " + none + ")", desk.paper(0, none), -1);
            CHECK.due("paper(" + none + ", 0)", desk.paper(none, 0), -1);
        }
        desk.pass(29);
        CHECK.due("not known on day 30", desk.paper(0, 8), -2);
        desk.pass(1);
        CHECK.due("known on day 31", desk.paper(0, 8), 31);
        desk.pass(400);
        CHECK.due("known since day 31", desk.paper(0, 8), 31);
    }

    private static void promise17Worths() {
        CHECK.of("Promise 17", "How many STAMPS of a WORTH a paper has; NONE.");
        ConsulDesk desk = Desks.ready("fee 1 is value");
        Desks.stockAll(desk, 0, 9);
        desk.seal(0, 1, 184, 1);
        int[] want = {-1, 0, 2, 0, 3, 3, -1};
        for (int worth = -1; worth <= 5; worth++) {
            CHECK.due("stamps(0, " + worth + ")", desk.stamps(0, worth), want[worth + 1]);
            CHECK.due("stamps(-1, " + worth + ")", desk.stamps(-1, worth), -1);
            CHECK.due("stamps(1, " + worth + ")", desk.stamps(1, worth), -1);
        }
        for (int none : FAR) {
            CHECK.due("stamps(0, " + none + ")", desk.stamps(0, none), -1);
            CHECK.due("stamps(" + none + ", 0)", desk.stamps(none, 0), -1);
        }
    }

    private static void promise18Whats() {
        CHECK.of("Promise 18", "4 .. 8 STAMPS of WORTHS 0 .. 4; NONE.");
        ConsulDesk desk = Desks.ready("fee 1 is value");
        for (int worth = 0; worth < 5; worth++) {
            desk.stock(0, worth, 20 + worth);
        }
        desk.seal(0, 1, 50, 1);
        int[] want = {-1, 1, 50, 1, 1, 20, 21, 22, 23, 23, -1};
        for (int what = -1; what <= 9; what++) {
            CHECK.due("about(0, " + what + ")", desk.about(0, what), want[what + 1]);
            CHECK.due("about(-1, " + what + ")", desk.about(-1, what), -1);
            CHECK.due("about(1, " + what + ")", desk.about(1, what), -1);
        }
        for (int none : FAR) {
            CHECK.due("about(0, " + none + ")", desk.about(0, none), -1);
            CHECK.due("about(" + none + ", 0)", desk.about(none, 0), -1);
        }
    }

    private static void promise18Accounts() {
        CHECK.of("Promise 18", "3 ACCOUNTS sent");
        int[][] cases = {{0, 0, 0}, {0, 1, 1}, {0, 30, 1}, {0, 31, 2}, {1, 30, 0}, {1, 31, 1}, {29, 30, 0},
            {29, 31, 1}, {30, 30, 0}, {30, 31, 1}, {31, 60, 0}, {31, 61, 1}, {0, 10000, 334}, {0, 9991, 334},
            {0, 9990, 333}};
        for (int[] c : cases) {
            ConsulDesk desk = new ConsulDesk();
            Desks.pass(desk, c[0]);
            desk.port(60);
            Desks.pass(desk, c[1] - c[0]);
            CHECK.due("opened on day " + c[0] + ", on day " + c[1], desk.about(0, 3), c[2]);
        }
    }
}
