/** Runs of calls made by dice, of at most 512 each, answered by the program and by PlainDesk. */
public final class AgainstPlainTest {
    private static final Check CHECK = new Check("AgainstPlainTest");
    private static int fullTariffs = 0;
    private static int fullPapers = 0;

    private final Dice dice;
    private final Texts texts;
    private final ConsulDesk desk = new ConsulDesk();
    private final PlainDesk plain = new PlainDesk();
    private final String run;
    private int calls = 0;

    private AgainstPlainTest(int run) {
        this.dice = new Dice(run);
        this.texts = new Texts(dice);
        this.run = "run " + run + ", call ";
    }

    public static void main(String[] args) {
        for (int run = 0; run < 1500 && CHECK.wrong() < 20; run++) {
            new AgainstPlainTest(run).go();
        }
        CHECK.due("runs filled up the tariffs", fullTariffs > 20, true);
        CHECK.due("runs filled up the papers", fullPapers > 20, true);
        CHECK.end();
    }

    private void go() {
        int ports = 1 + dice.roll(4);
        int wild = dice.once(5) ? 3 : 12;
        int longest = dice.once(3) ? 400 : 1 + dice.roll(60);
        int crowd = dice.roll(8);
        for (int i = 0; i < (crowd == 1 ? 8 : ports); i++) {
            port(1 + dice.roll(dice.once(2) ? 60 : 8));
        }
        if (crowd == 2) {
            readyToSeal();
        }
        while (calls < 480) {
            if (crowd == 1 && dice.once(3)) {
                tell("fee " + dice.roll(4) + " is " + dice.roll(60), false);
            }
            if (crowd == 2 && !dice.once(40)) {
                sealOne(portNumber(), dice.roll(3), dice.roll(300), 1 + dice.roll(9));
                continue;
            }
            act(wild, longest);
            due("trouble()", desk.trouble(), plain.trouble());
            ask();
            ask();
        }
        fullTariffs += plain.count(1) == 30 ? 1 : 0;
        fullPapers += plain.count(2) == 200 ? 1 : 0;
    }

    /** Papers fill up only in runs that do little else: the stamps for them must be there ahead. */
    private void readyToSeal() {
        tell("fee 1 is sealed / 7 + port; fee 2 when value > 200 is value / 9; fee 2 is sheets", false);
        for (int port = 0; port < plain.count(0); port++) {
            for (int worth = 0; worth < 5; worth++) {
                due("stock", desk.stock(port, worth, 900), plain.stock(port, worth, 900));
            }
        }
        pass(60);
    }

    private void due(String call, long got, long want) {
        calls++;
        CHECK.due(run + calls + ": " + call, got, want);
    }

    private int portNumber() {
        return dice.once(30) ? dice.roll(12) - 2 : dice.roll(Math.max(1, plain.count(0)));
    }

    private int tariffNumber() {
        return dice.once(30) ? dice.roll(35) - 2 : dice.roll(Math.max(1, plain.count(1)));
    }

    private int paperNumber() {
        return dice.once(30) ? dice.roll(210) - 2 : dice.roll(Math.max(1, plain.count(2)));
    }

    private int wildNumber() {
        int[] some = {Integer.MIN_VALUE, Integer.MAX_VALUE, -1, 0, 1, 9, 10, 60, 61, 99, 100, 300, 301, 400, 401,
            9999, 10000, 10001, -10000};
        return some[dice.roll(some.length)];
    }

    private void port(int days) {
        due("port(" + days + ")", desk.port(days), plain.port(days));
    }

    private void act(int wild, int longest) {
        boolean strange = dice.once(wild);
        switch (dice.roll(16)) {
            case 0: if (dice.once(4)) { port(strange ? wildNumber() : 1 + dice.roll(20)); } break;
            case 1: case 2: tell(strange ? texts.spoilt() : texts.sound(), strange); break;
            case 3: case 4: case 5: lose(); break;
            case 6: case 7: case 8: pass(strange ? wildNumber() : 1 + dice.roll(longest)); break;
            case 9: case 10: stock(strange ? wildNumber() : dice.roll(dice.once(2) ? 8 : 100)); break;
            case 11: fee(strange); break;
            default: seal(strange); break;
        }
    }

    private void tell(String text, boolean strange) {
        for (int at = 0; at < text.length() || strange && dice.once(3) && at < 400; at += 20) {
            int a = Desks.word(text, at);
            int b = Desks.word(text, at + 4);
            int c = Desks.word(text, at + 8);
            int d = Desks.word(text, at + 12);
            int e = Desks.word(text, at + 16);
            due("feed", desk.feed(a, b, c, d, e), plain.feed(a, b, c, d, e));
        }
        due("trouble()", desk.trouble(), plain.trouble());
        int n = strange && dice.once(4) ? wildNumber() : text.length();
        due("tariff(" + n + ") of \"" + text + "\"", desk.tariff(n), plain.tariff(n));
        due("fault() of \"" + text + "\"", desk.fault(), plain.fault());
        due("where() of \"" + text + "\"", desk.where(), plain.where());
    }

    private void lose() {
        int port = portNumber();
        int number = dice.once(2) ? plain.count(1) - 1 - dice.roll(3) : tariffNumber();
        due("lost(" + port + ", " + number + ")", desk.lost(port, number) ? 1 : 0, plain.lost(port, number) ? 1 : 0);
    }

    private void pass(int days) {
        due("pass(" + days + ")", desk.pass(days), plain.pass(days));
    }

    private void stock(int many) {
        int port = portNumber();
        int worth = dice.once(30) ? dice.roll(8) - 2 : dice.roll(5);
        due("stock(" + port + ", " + worth + ", " + many + ")", desk.stock(port, worth, many),
            plain.stock(port, worth, many));
    }

    private int value() {
        return dice.once(2) ? dice.roll(10000) : dice.roll(300);
    }

    private void fee(boolean strange) {
        int t = tariffNumber();
        int p = portNumber();
        int k = strange && dice.once(3) ? wildNumber() : dice.roll(4);
        int v = strange && dice.once(3) ? wildNumber() : value();
        int s = strange && dice.once(3) ? wildNumber() : 1 + dice.roll(99);
        due("fee(" + t + ", " + p + ", " + k + ", " + v + ", " + s + ")", desk.fee(t, p, k, v, s),
            plain.fee(t, p, k, v, s));
    }

    private void seal(boolean strange) {
        int p = portNumber();
        int k = strange && dice.once(3) ? wildNumber() : dice.roll(4);
        int v = strange && dice.once(3) ? wildNumber() : value();
        int s = strange && dice.once(3) ? wildNumber() : 1 + dice.roll(9);
        int answer = sealOne(p, k, v, s);
        for (int worth = 0; worth < 5 && answer >= 0; worth++) {
            due("stamps(" + answer + ", " + worth + ")", desk.stamps(answer, worth), plain.stamps(answer, worth));
        }
    }

    private int sealOne(int p, int k, int v, int s) {
        int answer = plain.seal(p, k, v, s);
        due("seal(" + p + ", " + k + ", " + v + ", " + s + ")", desk.seal(p, k, v, s), answer);
        return answer;
    }

    private void ask() {
        int p = portNumber();
        int t = tariffNumber();
        int i = paperNumber();
        int what = dice.roll(11) - 1;
        int day = dice.once(20) ? wildNumber() : plain.count(3) - dice.roll(dice.once(2) ? 3 : 100);
        switch (dice.roll(17)) {
            case 0: due("force " + p, desk.force(p), plain.force(p)); break;
            case 1: due("came " + p + ", " + t, desk.came(p, t), plain.came(p, t)); break;
            case 2: due("asked " + p + ", " + t, desk.asked(p, t), plain.asked(p, t)); break;
            case 3: due("under 0", desk.under(0), plain.under(0)); break;
            case 4: due("under 1", desk.under(1), plain.under(1)); break;
            case 5: due("under 2", desk.under(2), plain.under(2)); break;
            case 6: due("under " + what, desk.under(what), plain.under(what)); break;
            case 7: due("paper " + i + ", " + what, desk.paper(i, what), plain.paper(i, what)); break;
            case 8: due("paper " + i + ", 8", desk.paper(i, 8), plain.paper(i, 8)); break;
            case 9: due("stamps " + i + ", " + what, desk.stamps(i, what), plain.stamps(i, what)); break;
            case 10: due("about " + p + ", " + what, desk.about(p, what), plain.about(p, what)); break;
            case 11: due("known " + p + ", " + day, desk.known(p, day), plain.known(p, day)); break;
            case 12: due("sum " + p + ", " + day, desk.sum(p, day), plain.sum(p, day)); break;
            case 13: due("homes " + i, desk.homes(i), plain.homes(i)); break;
            case 14: due("difference " + p, desk.difference(p), plain.difference(p)); break;
            case 15: due("unlike " + p, desk.unlike(p), plain.unlike(p)); break;
            default: due("count " + what, desk.count(what), plain.count(what)); break;
        }
    }
}
