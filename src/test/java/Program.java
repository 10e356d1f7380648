/** The program under test, and short words to make NODES with. */
final class Program {
  final PolarTypes x = new PolarTypes();

  int number(int n) {
    return x.node(0, n, 0, 0, 0);
  }

  int truth(int b) {
    return x.node(1, b, 0, 0, 0);
  }

  int name(int l) {
    return x.node(2, l, 0, 0, 0);
  }

  int function(int l, int body) {
    return x.node(3, l, body, 0, 0);
  }

  int apply(int what, int to) {
    return x.node(4, 0, what, to, 0);
  }

  int record(int... fields) {
    int record = x.node(5, 0, 0, 0, 0);
    for (int i = 0; i + 1 < fields.length; i += 2) x.field(record, fields[i], fields[i + 1]);
    return record;
  }

  int get(int l, int part) {
    return x.node(6, l, part, 0, 0);
  }

  int let(int l, int first, int second) {
    return x.node(7, l, first, second, 0);
  }

  int rec(int l, int first, int second) {
    return x.node(8, l, first, second, 0);
  }

  int pick(int truth, int yes, int no) {
    return x.node(9, 0, truth, yes, no);
  }

  int sum(int a, int b) {
    return x.node(10, 0, a, b, 0);
  }

  int less(int a, int b) {
    return x.node(11, 0, a, b, 0);
  }

  String signs() {
    StringBuilder text = new StringBuilder();
    for (int i = 0; i < x.sign(-1); i++) text.append((char) x.sign(i));
    return text.toString();
  }

  String below(int v, int i) {
    return bound(v, false, i);
  }

  String above(int v, int i) {
    return bound(v, true, i);
  }

  private String bound(int v, boolean above, int i) {
    StringBuilder text = new StringBuilder();
    for (int j = 0; j < x.bound(v, above, i, -1); j++) text.append((char) x.bound(v, above, i, j));
    return text.toString();
  }

  /** LEVEL, how many BELOW, how many ABOVE. */
  String variable(int v) {
    return x.variable(v, 0) + " " + x.variable(v, 1) + " " + x.variable(v, 2);
  }

  String value() {
    StringBuilder text = new StringBuilder();
    for (int i = 0; i < x.value(-1); i++) text.append((char) x.value(i));
    return text.toString();
  }

  /** What comes of a type(): its answer, where(), steps() and the signs. */
  String typed(int node) {
    int answer = x.type(node);
    return answer + " at " + x.where() + ", " + x.steps() + " steps " + signs();
  }

  /** What comes of a work(): its OUTCOME, stuck(), worked() and the VALUE. */
  String worked(int node, int n) {
    int outcome = x.work(node, n);
    return outcome + " at " + x.stuck() + ", " + x.worked() + " steps " + value();
  }
}
