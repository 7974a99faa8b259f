/** Texts of tariffs made by dice: sound ones, and ones with something put wrong. */
final class Texts {
    private final Dice dice;

    Texts(Dice dice) {
        this.dice = dice;
    }

    String sound() {
        StringBuilder text = new StringBuilder();
        int lines = dice.once(4) ? 1 + dice.roll(12) : 1 + dice.roll(4);
        for (int i = 0; i < lines; i++) {
            String line = line();
            if (text.length() + line.length() + 1 <= 300) {
                text.append(i == 0 ? "" : dice.one(";", "; ", " ;")).append(line);
            }
        }
        return text.toString();
    }

    private String name() {
        return dice.one("value", "sheets", "port", "sealed");
    }

    private String line() {
        StringBuilder line = new StringBuilder("fee" + dice.one("", " ", "  ") + dice.one("", "0") + dice.roll(4));
        int tests = dice.once(2) ? 0 : 1 + dice.roll(dice.once(4) ? 4 : 2);
        for (int i = 0; i < tests; i++) {
            line.append(i == 0 ? " when " : dice.one("and ", " and ")).append(name());
            line.append(dice.one("<", ">", "=", " < ", " > "));
            line.append(dice.once(3) ? dice.roll(5) : dice.roll(1000));
        }
        line.append(dice.one(" is ", "is "));
        int terms = 1 + dice.roll(dice.once(4) ? 4 : 2);
        for (int i = 0; i < terms; i++) {
            line.append(i == 0 ? "" : dice.one("+", " + ")).append(term());
        }
        return line.toString();
    }

    private String term() {
        String number = String.valueOf(dice.once(3) ? dice.roll(1000) : dice.roll(20));
        String divided = dice.once(2) ? "" : dice.one("/", " / ") + (1 + dice.roll(dice.once(3) ? 999 : 60));
        switch (dice.roll(3)) {
            case 0: return number;
            case 1: return number + dice.one("*", " * ") + name() + divided;
            default: return name() + divided;
        }
    }

    /** A text with one to three places changed; most of them have a fault then. */
    String spoilt() {
        StringBuilder text = new StringBuilder(dice.once(5) ? crowded() : sound());
        for (int changes = dice.roll(3); changes >= 0; changes--) {
            int at = dice.roll(text.length() + 1);
            switch (dice.roll(4)) {
                case 0: text.setLength(at); break;
                case 1: text.insert(at, dice.one("fee", " is", "when ", " and ", "value", "zome", "waybills ",
                    "ninetimes", "1234", "0", "/0", "/00 ", "10", "+", "*", ";", "<", " ", "  ", "port", "9",
                    "F", "\n", "\u00e9", "\u0000", "a", "-", "sealed", "+value", "+7", " and port<9"));
                    break;
                case 2: if (at < text.length()) { text.deleteCharAt(at); } break;
                default: if (at < text.length()) { text.setCharAt(at, text.charAt(dice.roll(text.length()))); }
            }
        }
        return text.length() > 300 ? text.substring(0, 300) : text.toString();
    }

    /** A text at, or one above, one of the bounds of lines, tests and terms. */
    private String crowded() {
        switch (dice.roll(3)) {
            case 0: return "fee1is1" + ";fee1is1".repeat(11 + dice.roll(2));
            case 1: return "fee 1 when port<9" + " and port<9".repeat(3 + dice.roll(2)) + " is 1";
            default: return "fee 1 is 1" + dice.one("+value", "+2").repeat(3 + dice.roll(2));
        }
    }
}
