import java.io.IOException;
import java.nio.file.Files;
import java.nio.file.Path;
import java.util.List;

/** What README.md shows of the use of the class is what the class answers. */
public final class ReadmeExample extends Checks {
    private static List<String> lines;

    public static void main(String[] args) throws IOException {
        lines = Files.readAllLines(Path.of("README.md"));
        promise = "the example of README.md";
        Usewise books = new Usewise();
        shows("int lease = books.add(4, 100, 1, 0, 10000, 10, 7);", books.add(4, 100, 1, 0, 10000, 10, 7));
        int lease = 0;
        shows("books.debt(lease);", books.debt(lease));
        shows("books.right(lease);", books.right(lease));
        shows("books.pass(1);", books.pass(1));
        shows("books.interest(lease);", books.interest(lease));
        shows("books.written(lease);", books.written(lease));
        shows("books.review(lease, 50);", books.review(lease, 50));
        shows("books.lengthen(lease, 2, 80);", books.lengthen(lease, 2, 80));
        shows("books.shorten(lease, 1);", books.shorten(lease, 1));
        shows("books.cut(lease, 25);", books.cut(lease, 25));
        shows("books.gains(lease);", books.gains(lease));
        shows("books.rateFor(lease, 390);", books.rateFor(lease, 390));
        shows("books.rateFor(lease, 300);", books.rateFor(lease, 300));
        shows("books.saleGain(lease, 500, 1000);", books.saleGain(lease, 500, 1000));
        shows("books.pass(24);", books.pass(24));
        shows("books.paid(lease);", books.paid(lease));
        end();
    }

    /** The line of README.md that makes the call tells this answer behind its "//". */
    private static void shows(String call, int answer) {
        String told = "";
        for (String line : lines) {
            if (line.startsWith(call)) {
                told = line.substring(line.indexOf("//")).split("[:;]")[0].substring(2).trim();
            }
        }
        text(call + " is told there with its answer", told, "" + answer);
    }
}
