/** The choice of stamps (promise 15) against a table of all sums, for many stocks and fees. */
public final class StampsTest {
    private static final Check CHECK = new Check("StampsTest");

    public static void main(String[] args) {
        Dice dice = new Dice(7);
        for (int run = 0; run < 4000; run++) {
            int[] stock = new int[5];
            int most = 1 + dice.roll(40);
            for (int worth = 0; worth < 5; worth++) {
                stock[worth] = dice.once(4) ? dice.roll(3) : dice.roll(most);
            }
            ConsulDesk desk = Desks.ready("fee 1 is value");
            compare(desk, stock, dice.roll(1 + dice.roll(dice.once(10) ? 5000 : 250)));
        }
        // All stocks of a few stamps, for all fees that they could make.
        for (int all = 0; all < 4 * 6 * 3 * 4 * 2; all++) {
            int[] stock = {all % 4, all / 4 % 6, all / 24 % 3, all / 72 % 4, all / 288};
            for (int fee = 1; fee < 60; fee += 1 + fee % 3) {
                compare(Desks.ready("fee 1 is value"), stock, fee);
            }
        }
        CHECK.end();
    }

    private static void compare(ConsulDesk desk, int[] stock, int fee) {
        for (int worth = 0; worth < 5; worth++) {
            desk.stock(0, worth, stock[worth]);
        }
        int[] want = PlainDesk.fewest(stock, fee);
        String what = "seal for " + fee + " of " + java.util.Arrays.toString(stock);
        CHECK.due(what, desk.seal(0, 1, fee, 1), want == null ? -1 : 0);
        for (int worth = 0; worth < 5 && want != null; worth++) {
            CHECK.due(what + ", worth " + worth, desk.stamps(0, worth), want[worth]);
        }
    }
}
