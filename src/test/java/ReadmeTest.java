import java.io.IOException;
import java.nio.file.Files;
import java.nio.file.Path;

/** The example of README.md, word for word, and what it says of the answers. */
public final class ReadmeTest {
    private static final Check CHECK = new Check("ReadmeTest");

    public static void main(String[] args) throws IOException {
        example();
        String text = "fee 1 when value > 100 and sheets < 5 is 5 + 2 * value / 100; fee 1 is 7";
        ConsulDesk desk = Desks.ready(text);
        CHECK.due("the longer text's fee, the tests hold", desk.fee(0, 0, 1, 250, 4), 10);
        CHECK.due("the longer text's fee, one does not", desk.fee(0, 0, 1, 250, 5), 7);
        CHECK.due("difference() of no port", desk.difference(1), 0);
        String own = Files.readString(Path.of("src/test/java/ReadmeTest.java"));
        String readme = Files.readString(Path.of("README.md"));
        CHECK.due("the longer text is in README.md", readme.contains("`" + text + "`"), true);
        String here = between(own, "// the example", "// its end");
        CHECK.due("the example here and in README.md", bare(between(readme, "```java", "```")), bare(here));
        CHECK.end();
    }

    private static void example() {
        // the example
        ConsulDesk desk = new ConsulDesk();
        int port = desk.port(5);                    // a port five days away
        desk.feed(0x66656520, 0x31206973, 0x20372020, 0x20202020, 0x20202020);   // "fee 1 is 7" and blanks
        int tariff = desk.tariff(10);               // its first ten bytes: told at home, sent out today
        desk.pass(5);                               // it comes, and is in force there
        desk.stock(port, 2, 1);                     // a stamp of 5 ..
        desk.stock(port, 1, 1);                     // .. and one of 2
        int paper = desk.seal(port, 1, 100, 2);     // a paper of kind 1, value 100, two sheets
        int fee = desk.paper(paper, 5);             // 7
        int second = desk.seal(port, 1, 100, 2);    // NONE: the stamps are gone ..
        int why = desk.trouble();                   // .. which is trouble 6
        desk.pass(30);                              // day 35: the account of day 30 is at home
        int sum = desk.sum(port, desk.count(3));    // 7
        // its end
        CHECK.due("port", port, 0);
        CHECK.due("tariff", tariff, 0);
        CHECK.due("paper", paper, 0);
        CHECK.due("fee", fee, 7);
        CHECK.due("second", second, ConsulDesk.NONE);
        CHECK.due("why", why, 6);
        CHECK.due("today", desk.count(3), 35);
        CHECK.due("sum", sum, 7);
        CHECK.due("sum on the day before", desk.sum(port, 34), 0);
    }

    /** From the last such place on: this file's own marks stand in its main method, too. */
    private static String between(String text, String from, String to) {
        int start = text.lastIndexOf(from);
        int end = start < 0 ? -1 : text.indexOf(to, start + from.length());
        return end < 0 ? "" : text.substring(start + from.length(), end);
    }

    private static String bare(String text) {
        return text.trim().replaceAll("\\s*\n\\s*", "\n");
    }
}
