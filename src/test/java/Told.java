/** All that a desk tells of its state (but for the tape and its trouble), to hold two desks together. */
final class Told {
    private final ConsulDesk desk;
    private final StringBuilder rows = new StringBuilder();

    private Told(ConsulDesk desk) {
        this.desk = desk;
    }

    static String of(ConsulDesk desk) {
        Told told = new Told(desk);
        for (int what = 0; what < 4; what++) {
            told.row("count " + what, desk.count(what));
        }
        for (int what = 0; what < 3; what++) {
            told.row("under " + what, desk.under(what));
        }
        for (int port : some(desk.count(0))) {
            told.port(port);
        }
        for (int paper : some(desk.count(2))) {
            told.paper(paper);
        }
        return told.rows.toString();
    }

    /** The first two and the last two: all of them could be more calls than an object is used for. */
    private static int[] some(int many) {
        int[] some = new int[Math.min(4, many)];
        for (int i = 0; i < some.length; i++) {
            some[i] = i < 2 ? i : many - some.length + i;
        }
        return some;
    }

    private void row(String call, long answer) {
        rows.append(call).append('=').append(answer).append("; ");
    }

    private void port(int port) {
        int today = desk.count(3);
        row("force " + port, desk.force(port));
        for (int what = 0; what < 9; what++) {
            row("about " + port + " " + what, desk.about(port, what));
        }
        for (int number : some(desk.count(1))) {
            row("came " + port + " " + number, desk.came(port, number));
            row("asked " + port + " " + number, desk.asked(port, number));
        }
        row("known " + port, desk.known(port, today));
        row("sum " + port, desk.sum(port, today));
        row("difference " + port, desk.difference(port));
        row("unlike " + port, desk.unlike(port));
    }

    private void paper(int i) {
        for (int what = 0; what < 9; what++) {
            row("paper " + i + " " + what, desk.paper(i, what));
        }
        for (int worth = 0; worth < 5; worth++) {
            row("stamps " + i + " " + worth, desk.stamps(i, worth));
        }
        row("homes " + i, desk.homes(i));
    }
}
