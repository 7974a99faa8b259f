/** What the tests of the project share: texts put on the tape, and desks made ready. */
final class Desks {
    private Desks() {
    }

    /** Feeds a text, filled up with blanks to twenties; the latest answer of feed(). */
    static int feed(ConsulDesk desk, String text) {
        int answer = desk.count(4);
        for (int at = 0; at < text.length(); at += 20) {
            answer = desk.feed(word(text, at), word(text, at + 4), word(text, at + 8),
                word(text, at + 12), word(text, at + 16));
        }
        return answer;
    }

    static int word(String text, int at) {
        int word = 0;
        for (int i = at; i < at + 4; i++) {
            word = word << 8 | (i < text.length() ? text.charAt(i) & 255 : ' ');
        }
        return word;
    }

    /** Feeds a text and tells it as a tariff. */
    static int tell(ConsulDesk desk, String text) {
        feed(desk, text);
        return desk.tariff(text.length());
    }

    /** A desk of one port, a day away, where the text is in force on day 1. */
    static ConsulDesk ready(String text) {
        ConsulDesk desk = new ConsulDesk();
        desk.port(1);
        tell(desk, text);
        desk.pass(1);
        return desk;
    }

    static void stockAll(ConsulDesk desk, int port, int many) {
        for (int worth = 0; worth < 5; worth++) {
            desk.stock(port, worth, many);
        }
    }

    /** Lets so many days go, by as many passes as it takes. */
    static void pass(ConsulDesk desk, int days) {
        for (int left = days; left > 0; left -= 400) {
            desk.pass(Math.min(left, 400));
        }
    }
}
