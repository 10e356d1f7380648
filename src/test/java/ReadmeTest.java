import java.io.IOException;
import java.nio.file.Files;
import java.nio.file.Path;
import java.util.regex.Pattern;

/** The calls that README.md shows, in its order, with the answers that it tells behind them. */
public final class ReadmeTest extends Checks {
  private static String page;

  public static void main(String[] args) throws IOException {
    page = Files.readString(Path.of("README.md"));
    PolarTypes p = new PolarTypes();
    promise("README, how to use it");
    int name = p.node(2, 23, 0, 0, 0);
    shown("int name = p.node(2, 23, 0, 0, 0);", name, 0);
    int id = p.node(3, 23, name, 0, 0);
    shown("int id = p.node(3, 23, name, 0, 0);", id, 1);
    int number = p.node(0, 5, 0, 0, 0);
    shown("int number = p.node(0, 5, 0, 0, 0);", number, 2);
    int apply = p.node(4, 0, id, number, 0);
    shown("int apply = p.node(4, 0, id, number, 0);", apply, 3);
    shown("p.type(apply);", p.type(apply), 2);
    shown("p.sign(-1);", p.sign(-1), 5);
    shown("p.sign(0);", p.sign(0), '|');
    shown("p.bound(1, false, 0, 0);", p.bound(1, false, 0, 0), 'w');
    shown("p.work(apply, 300);", p.work(apply, 300), 0);
    shown("p.value(0);", p.value(0), '5');
    shown("p.worked();", p.worked(), 4);
    promise("README, a RECORD");
    int record = p.node(5, 0, 0, 0, 0);
    shown("int record = p.node(5, 0, 0, 0, 0);", record, 4);
    shown("p.field(record, 0, apply);", p.field(record, 0, apply), 1);
    shown("p.type(record);", p.type(record), 2);
    shown("p.sign(0);", p.sign(0), '{');
    int wrong = p.node(6, 1, record, 0, 0);
    shown("int wrong = p.node(6, 1, record, 0, 0);", wrong, 5);
    shown("p.type(wrong);", p.type(wrong), FAULT);
    shown("p.where();", p.where(), wrong);
    shown("p.work(wrong, 300);", p.work(wrong, 300), 1);
    shown("p.stuck();", p.stuck(), wrong);
    due("how many lines of code the page has, each held here", linesOfCode(), 21);
    end("ReadmeTest");
  }

  /** The answer is due, and the page tells it behind the call. */
  private static void shown(String call, int got, int want) {
    due(call, got, want);
    boolean told = Pattern.compile(Pattern.quote(call) + " +// " + want + "(: .*)?\n").matcher(page).find();
    due("the page tells " + call, told ? 1 : 0, 1);
  }

  private static long linesOfCode() {
    return page.lines().filter(line -> line.matches("(int \\w+|p\\.|PolarTypes ).*;( *//.*)?")).count();
  }
}
