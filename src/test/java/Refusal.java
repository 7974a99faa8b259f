/**
 * Holds that a refused call answers NONE (lost: false), tells its trouble and leaves all else as it is:
 * a desk with the call is held against one without it, on that day and behind what both do later.
 */
final class Refusal {
    /** What makes a desk ready for the call. */
    interface Making {
        void make(ConsulDesk desk);
    }

    interface Call {
        long on(ConsulDesk desk);
    }

    private final Check check;
    private final Making making;

    Refusal(Check check, Making making) {
        this.check = check;
        this.making = making;
    }

    /** The tape stays, too. */
    void due(String name, Call call, int trouble) {
        due(name, call, trouble, made().count(4));
    }

    /** The tape has so many bytes behind the call. */
    void due(String name, Call call, int trouble, int tape) {
        ConsulDesk with = made();
        ConsulDesk without = made();
        check.due(name, call.on(with), name.startsWith("lost") ? 0 : ConsulDesk.NONE);
        check.due(name + ", then trouble()", with.trouble(), trouble);
        if (trouble != 4) {
            check.due(name + ", then where()", with.where(), ConsulDesk.NONE);
        }
        check.due(name + ", then the tape", with.count(4), tape);
        check.due(name + ", then all", Told.of(with), Told.of(without));
        goOn(with);
        goOn(without);
        check.due(name + ", then all later", Told.of(with), Told.of(without));
    }

    private ConsulDesk made() {
        ConsulDesk desk = new ConsulDesk();
        making.make(desk);
        return desk;
    }

    private static void goOn(ConsulDesk desk) {
        desk.pass(1);
        desk.stock(0, 0, 3);
        desk.seal(0, 1, 1, 1);
        desk.pass(61);
        desk.seal(0, 1, 2, 1);
        desk.pass(120);
    }
}
