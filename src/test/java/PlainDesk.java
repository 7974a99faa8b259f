import java.util.ArrayList;
import java.util.List;
import java.util.regex.Matcher;
import java.util.regex.Pattern;

/**
 * The document said once more in the plainest way, for the tests to hold the program against: each
 * day is lived through, dispatches are things that travel, and stamps are found by trying all sums.
 */
final class PlainDesk {
    private static final int[] WORTHS = {1, 2, 5, 10, 50};

    private static final class Travel {
        final char what; // 'o' out, 'a' ask, 'c' account
        final int port;
        final int number;
        final int day;
        final List<Paper> papers;

        Travel(char what, int port, int number, int day, List<Paper> papers) {
            this.what = what;
            this.port = port;
            this.number = number;
            this.day = day;
            this.papers = papers;
        }
    }

    private static final class Port {
        int days;
        int opened;
        int chest;
        int accounts;
        int[] stock = new int[5];
        List<Integer> came = new ArrayList<>();
        List<Integer> asked = new ArrayList<>();
        List<Boolean> lost = new ArrayList<>();
        List<Paper> papers = new ArrayList<>();
        List<Paper> unsent = new ArrayList<>();
    }

    static final class Paper {
        int port;
        int kind;
        int value;
        int sheets;
        int day;
        int fee;
        int tariff;
        int ahead;
        int knownOn = -2;
        int[] stamps;
    }

    private static final class Tariff {
        int day;
        String text;
    }

    private final List<Port> ports = new ArrayList<>();
    private final List<Tariff> tariffs = new ArrayList<>();
    private final List<Paper> papers = new ArrayList<>();
    private final List<Travel> travels = new ArrayList<>();
    private String tape = "";
    private int today = 0;
    private int trouble = 0;
    private int fault = 0;
    private int place = 0;

    private int no(int why) {
        trouble = why;
        return -1;
    }

    private int yes(int answer) {
        trouble = 0;
        return answer;
    }

    private boolean isPort(int port) {
        return port >= 0 && port < ports.size();
    }

    private boolean isTariff(int tariff) {
        return tariff >= 0 && tariff < tariffs.size();
    }

    int port(int days) {
        if (days < 1 || days > 60) {
            return no(2);
        }
        if (ports.size() == 8) {
            return no(3);
        }
        Port port = new Port();
        port.days = days;
        port.opened = today;
        for (int i = 0; i < tariffs.size(); i++) {
            port.came.add(today);
            port.asked.add(0);
            port.lost.add(false);
        }
        ports.add(port);
        return yes(ports.size() - 1);
    }

    int feed(int a, int b, int c, int d, int e) {
        if (tape.length() + 20 > 300) {
            return -1;
        }
        StringBuilder more = new StringBuilder(tape);
        for (int word : new int[] {a, b, c, d, e}) {
            for (int shift = 24; shift >= 0; shift -= 8) {
                more.append((char) (word >>> shift & 255));
            }
        }
        tape = more.toString();
        return tape.length();
    }

    int tariff(int n) {
        if (n < 0 || n > tape.length()) {
            return no(2);
        }
        String text = tape.substring(0, n);
        tape = "";
        fault = 0;
        findFault(text);
        if (fault != 0) {
            return no(4);
        }
        if (tariffs.size() == 30) {
            return no(3);
        }
        Tariff tariff = new Tariff();
        tariff.day = today;
        tariff.text = text;
        tariffs.add(tariff);
        for (int i = 0; i < ports.size(); i++) {
            Port port = ports.get(i);
            port.came.add(-2);
            port.asked.add(0);
            port.lost.add(false);
            travels.add(new Travel('o', i, tariffs.size() - 1, today + port.days, null));
        }
        return yes(tariffs.size() - 1);
    }

    /** A token as one letter: f w a i keywords, n a name, x another word, N a number, signs, ! bad, $ end. */
    private static char letter(String token) {
        if (token.isEmpty()) {
            return '$';
        }
        if (token.matches("[a-z]{1,8}")) {
            switch (token) {
                case "fee": return 'f';
                case "when": return 'w';
                case "and": return 'a';
                case "is": return 'i';
                case "value": case "sheets": case "port": case "sealed": return 'n';
                default: return 'x';
            }
        }
        if (token.matches("[0-9]{1,3}")) {
            return 'N';
        }
        return token.matches("[<>=+*/;]") ? token.charAt(0) : '!';
    }

    private void findFault(String text) {
        // What may follow in each state, as pairs of a token's letter and the state behind it.
        String[] table = {
            "fA", "NB", "wCiG", "nD", "<E>E=E", "NF", "aCiG", "NHnJ", "*I+G;0$$", "nJ", "/K+G;0$$", "NL", "+G;0$$"
        };
        String names = "0ABCDEFGHIJKL";
        String states = "0ABCDEFGHIJKL";
        Matcher matcher = Pattern.compile("[a-z]+|[0-9]+|[^ ]", Pattern.DOTALL).matcher(text);
        int state = 0;
        int lines = 0;
        int tests = 0;
        int terms = 0;
        for (int go = 0; go <= text.length(); go++) {
            boolean found = matcher.find();
            String token = found ? matcher.group() : "";
            int at = found ? matcher.start() : text.length();
            char letter = letter(token);
            boolean nameMay = table[state].indexOf('n') >= 0;
            if (nameMay && letter == 'x') {
                blame(2, at);
                return;
            }
            int column = -1;
            for (int i = 0; i < table[state].length(); i += 2) {
                if (table[state].charAt(i) == letter) {
                    column = i;
                }
            }
            if (column < 0) {
                blame(1, at);
                return;
            }
            if (letter == '$') {
                return;
            }
            char here = names.charAt(state);
            if (here == '0') {
                lines++;
                tests = 0;
                terms = 0;
            }
            if (here == 'C') {
                tests++;
            }
            if (here == 'G') {
                terms++;
            }
            if (lines > 12 || tests > 4 || terms > 4) {
                blame(4, at);
                return;
            }
            if (here == 'A' && Integer.parseInt(token) > 9 || here == 'K' && Integer.parseInt(token) == 0) {
                blame(3, at);
                return;
            }
            state = states.indexOf(table[state].charAt(column + 1));
        }
    }

    private void blame(int which, int at) {
        fault = which;
        place = at;
    }

    int fault() {
        return fault;
    }

    int where() {
        return trouble == 4 ? place : -1;
    }

    boolean lost(int port, int number) {
        if (!isPort(port) || !isTariff(number)) {
            no(1);
            return false;
        }
        Port there = ports.get(port);
        if (there.came.get(number) != -2 || there.lost.get(number)) {
            no(7);
            return false;
        }
        there.lost.set(number, true);
        travels.removeIf(t -> t.what == 'o' && t.port == port && t.number == number);
        yes(0);
        return true;
    }

    int pass(int days) {
        if (days < 1 || days > 400 || today + days > 10000) {
            return no(2);
        }
        for (int i = 0; i < days; i++) {
            closeDay();
            today++;
            openDay();
        }
        return yes(today);
    }

    private void closeDay() {
        if (today % 30 != 0) {
            return;
        }
        for (int i = 0; i < ports.size(); i++) {
            Port port = ports.get(i);
            port.accounts++;
            travels.add(new Travel('c', i, 0, today + port.days, port.unsent));
            port.unsent = new ArrayList<>();
        }
    }

    private void openDay() {
        List<Travel> here = new ArrayList<>();
        for (Travel t : travels) {
            if (t.day == today) {
                here.add(t);
            }
        }
        travels.removeAll(here);
        for (Travel t : here) {
            if (t.what == 'o') {
                ports.get(t.port).came.set(t.number, today);
            } else if (t.what == 'a') {
                travels.add(new Travel('o', t.port, t.number, today + ports.get(t.port).days, null));
            } else {
                for (Paper paper : t.papers) {
                    paper.knownOn = today;
                }
            }
        }
        for (int i = 0; i < ports.size(); i++) {
            sendAsks(i);
        }
    }

    private void sendAsks(int i) {
        Port port = ports.get(i);
        for (int number = 0; number < tariffs.size(); number++) {
            boolean greater = false;
            for (int other = number + 1; other < tariffs.size(); other++) {
                greater |= port.came.get(other) != -2;
            }
            if (greater && port.came.get(number) == -2 && port.asked.get(number) == 0) {
                port.asked.set(number, 1);
                travels.add(new Travel('a', i, number, today + port.days, null));
            }
        }
    }

    int force(int port) {
        if (!isPort(port)) {
            return -1;
        }
        int best = -2;
        for (int number = 0; number < tariffs.size(); number++) {
            if (ports.get(port).came.get(number) == -2) {
                break;
            }
            best = number;
        }
        return best;
    }

    int came(int port, int number) {
        return isPort(port) && isTariff(number) ? ports.get(port).came.get(number) : -1;
    }

    int asked(int port, int number) {
        return isPort(port) && isTariff(number) ? ports.get(port).asked.get(number) : -1;
    }

    int under(int what) {
        if (what < 0 || what > 2) {
            return -1;
        }
        int many = 0;
        for (Travel t : travels) {
            if (t.what == "oac".charAt(what)) {
                many++;
            }
        }
        return many;
    }

    int stock(int port, int worth, int many) {
        if (!isPort(port) || worth < 0 || worth > 4) {
            return no(1);
        }
        long then = (long) ports.get(port).stock[worth] + many;
        if (many < 0 || then > 10000) {
            return no(2);
        }
        ports.get(port).stock[worth] = (int) then;
        return yes((int) then);
    }

    private static boolean fits(int kind, int value, int sheets) {
        return kind >= 0 && kind <= 9 && value >= 0 && value <= 9999 && sheets >= 1 && sheets <= 99;
    }

    private Paper draft(int port, int kind, int value, int sheets) {
        Paper paper = new Paper();
        paper.port = port;
        paper.kind = kind;
        paper.value = value;
        paper.sheets = sheets;
        paper.ahead = ports.get(port).papers.size();
        paper.day = today;
        return paper;
    }

    int fee(int tariff, int port, int kind, int value, int sheets) {
        if (!isTariff(tariff) || !isPort(port)) {
            return no(1);
        }
        if (!fits(kind, value, sheets)) {
            return no(2);
        }
        return yes(feeOf(tariffs.get(tariff).text, draft(port, kind, value, sheets)));
    }

    private static int measure(String name, Paper paper) {
        switch (name) {
            case "value": return paper.value;
            case "sheets": return paper.sheets;
            case "port": return paper.port;
            default: return paper.ahead;
        }
    }

    /** The text is one without faults, so blanks can go: no two words or numbers stand side by side. */
    private static int feeOf(String text, Paper paper) {
        for (String line : text.replace(" ", "").split(";")) {
            String head = line.substring(3, line.indexOf("is"));
            String sums = line.substring(line.indexOf("is") + 2);
            String tests = head.contains("when") ? head.substring(head.indexOf("when") + 4) : "";
            String kind = head.contains("when") ? head.substring(0, head.indexOf("when")) : head;
            if (Integer.parseInt(kind) == paper.kind && allHold(tests, paper)) {
                return Math.min(5000, total(sums, paper));
            }
        }
        return -2;
    }

    private static boolean allHold(String tests, Paper paper) {
        if (tests.isEmpty()) {
            return true;
        }
        boolean all = true;
        for (String test : tests.split("and")) {
            String[] sides = test.split("[<>=]");
            int left = measure(sides[0], paper);
            int right = Integer.parseInt(sides[1]);
            char sign = test.charAt(sides[0].length());
            all &= sign == '<' ? left < right : sign == '>' ? left > right : left == right;
        }
        return all;
    }

    private static int total(String sums, Paper paper) {
        int all = 0;
        for (String term : sums.split("\\+")) {
            String[] parts = term.split("/");
            int product = 1;
            for (String factor : parts[0].split("\\*")) {
                product *= Character.isDigit(factor.charAt(0)) ? Integer.parseInt(factor) : measure(factor, paper);
            }
            all += Math.floorDiv(product, parts.length > 1 ? Integer.parseInt(parts[1]) : 1);
        }
        return all;
    }

    int seal(int port, int kind, int value, int sheets) {
        if (!isPort(port)) {
            return no(1);
        }
        if (!fits(kind, value, sheets)) {
            return no(2);
        }
        int tariff = force(port);
        if (tariff < 0) {
            return no(5);
        }
        Paper paper = draft(port, kind, value, sheets);
        paper.tariff = tariff;
        paper.fee = feeOf(tariffs.get(tariff).text, paper);
        if (paper.fee == -2) {
            return no(5);
        }
        Port there = ports.get(port);
        paper.stamps = fewest(there.stock, paper.fee);
        if (paper.stamps == null) {
            return no(6);
        }
        if (papers.size() == 200) {
            return no(3);
        }
        for (int worth = 0; worth < 5; worth++) {
            there.stock[worth] -= paper.stamps[worth];
        }
        there.chest += paper.fee;
        there.papers.add(paper);
        there.unsent.add(paper);
        papers.add(paper);
        return yes(papers.size() - 1);
    }

    /** By a table of the least stamps for each sum and the worths up to one; from the greatest down. */
    static int[] fewest(int[] stock, int fee) {
        int far = 1000000;
        int[][] least = new int[6][fee + 1];
        for (int sum = 1; sum <= fee; sum++) {
            least[0][sum] = far;
        }
        for (int worth = 0; worth < 5; worth++) {
            for (int sum = 0; sum <= fee; sum++) {
                least[worth + 1][sum] = far;
                for (int take = 0; take <= stock[worth] && take * WORTHS[worth] <= sum; take++) {
                    least[worth + 1][sum] =
                        Math.min(least[worth + 1][sum], least[worth][sum - take * WORTHS[worth]] + take);
                }
            }
        }
        if (least[5][fee] >= far) {
            return null;
        }
        int[] taken = new int[5];
        int rest = fee;
        for (int worth = 4; worth >= 0; worth--) {
            for (int take = Math.min(stock[worth], rest / WORTHS[worth]); take >= 0; take--) {
                if (least[worth][rest - take * WORTHS[worth]] + take == least[worth + 1][rest]) {
                    taken[worth] = take;
                    break;
                }
            }
            rest -= taken[worth] * WORTHS[worth];
        }
        return taken;
    }

    private boolean isPaper(int i) {
        return i >= 0 && i < papers.size();
    }

    int paper(int i, int what) {
        if (!isPaper(i) || what < 0 || what > 8) {
            return -1;
        }
        Paper p = papers.get(i);
        int all = 0;
        for (int many : p.stamps) {
            all += many;
        }
        return new int[] {p.port, p.kind, p.value, p.sheets, p.day, p.fee, p.tariff, all, p.knownOn}[what];
    }

    int stamps(int i, int worth) {
        return isPaper(i) && worth >= 0 && worth <= 4 ? papers.get(i).stamps[worth] : -1;
    }

    int about(int port, int what) {
        if (!isPort(port) || what < 0 || what > 8) {
            return -1;
        }
        Port p = ports.get(port);
        return new int[] {p.days, p.chest, p.papers.size(), p.accounts,
            p.stock[0], p.stock[1], p.stock[2], p.stock[3], p.stock[4]}[what];
    }

    private List<Paper> knownPapers(int port, int day) {
        List<Paper> known = new ArrayList<>();
        for (Paper paper : ports.get(port).papers) {
            if (paper.knownOn != -2 && paper.knownOn <= day) {
                known.add(paper);
            }
        }
        return known;
    }

    int known(int port, int day) {
        return isPort(port) && day >= 0 && day <= today ? knownPapers(port, day).size() : -1;
    }

    int sum(int port, int day) {
        if (!isPort(port) || day < 0 || day > today) {
            return -1;
        }
        return knownPapers(port, day).stream().mapToInt(p -> p.fee).sum();
    }

    int homes(int i) {
        return isPaper(i) ? homeFee(papers.get(i)) : -10000;
    }

    private int homeFee(Paper paper) {
        int fee = -2;
        for (Tariff tariff : tariffs) {
            if (tariff.day <= paper.day) {
                fee = feeOf(tariff.text, paper);
            }
        }
        return fee == -2 ? -10000 : fee;
    }

    int difference(int port) {
        int all = 0;
        if (isPort(port)) {
            for (Paper paper : knownPapers(port, today)) {
                all += homeFee(paper) == -10000 ? 0 : paper.fee - homeFee(paper);
            }
        }
        return all;
    }

    int unlike(int port) {
        if (!isPort(port)) {
            return -1;
        }
        return (int) knownPapers(port, today).stream().filter(p -> p.fee != homeFee(p)).count();
    }

    int count(int what) {
        if (what < 0 || what > 4) {
            return -1;
        }
        return new int[] {ports.size(), tariffs.size(), papers.size(), today, tape.length()}[what];
    }

    int trouble() {
        return trouble;
    }
}
