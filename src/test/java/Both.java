/** A program and the model, given the same NODES; and what their answers differ in. */
final class Both {
  final PolarTypes real = new PolarTypes();
  final Model model = new Model();
  final StringBuilder calls = new StringBuilder();
  String wrong;

  int node(int kind, int v, int a, int b, int c) {
    calls.append("node(" + kind + ", " + v + ", " + a + ", " + b + ", " + c + ") ");
    int want = model.node(kind, v, a, b, c);
    same("node", real.node(kind, v, a, b, c), want);
    return want;
  }

  int field(int record, int x, int part) {
    calls.append("field(" + record + ", " + x + ", " + part + ") ");
    int want = model.field(record, x, part);
    same("field", real.field(record, x, part), want);
    return want;
  }

  int number(int n) {
    return node(0, n, 0, 0, 0);
  }

  int truth(int b) {
    return node(1, b, 0, 0, 0);
  }

  int name(int x) {
    return node(2, x, 0, 0, 0);
  }

  int function(int x, int body) {
    return node(3, x, body, 0, 0);
  }

  int apply(int what, int to) {
    return node(4, 0, what, to, 0);
  }

  /** A RECORD of label, part, label, part, .. */
  int record(int... fields) {
    int record = node(5, 0, 0, 0, 0);
    for (int i = 0; i + 1 < fields.length; i += 2) field(record, fields[i], fields[i + 1]);
    return record;
  }

  int get(int x, int part) {
    return node(6, x, part, 0, 0);
  }

  int let(int x, int first, int second) {
    return node(7, x, first, second, 0);
  }

  int rec(int x, int first, int second) {
    return node(8, x, first, second, 0);
  }

  int pick(int truth, int yes, int no) {
    return node(9, 0, truth, yes, no);
  }

  int sum(int a, int b) {
    return node(10, 0, a, b, 0);
  }

  int less(int a, int b) {
    return node(11, 0, a, b, 0);
  }

  int type(int n) {
    calls.append("type(" + n + ") ");
    int want = model.type(n);
    same("type", real.type(n), want);
    sameTypes();
    return want;
  }

  int work(int n, int most) {
    calls.append("work(" + n + ", " + most + ") ");
    int want = model.work(n, most);
    same("work", real.work(n, most), want);
    sameWork();
    return want;
  }

  void sameTypes() {
    Model.Typed latest = model.latest;
    same("where", real.where(), latest == null ? Model.NONE : latest.where);
    same("steps", real.steps(), latest == null ? 0 : latest.steps);
    same("count(1)", real.count(1), model.count(1));
    String type = model.type();
    sameText("sign", i -> real.sign(i), type, Model.STATE);
    for (int v = -1; v <= model.count(1); v++) {
      for (int what = -1; what <= 3; what++) same("variable " + v, real.variable(v, what), model.variable(v, what));
    }
    for (int v = 0; v < model.count(1); v++) sameBounds(v);
    same("bound", real.bound(model.count(1), true, 0, 0), Model.BAD);
    same("bound", real.bound(-1, false, 0, 0), Model.BAD);
    sameLong("digest", real.digest(), model.digest());
  }

  private void sameBounds(int v) {
    for (int side = 0; side < 2; side++) {
      boolean above = side == 1;
      int many = model.variable(v, above ? 2 : 1);
      for (int i = -1; i <= many; i++) {
        // Each sign is a call that tells the whole: of a long row its ends are enough.
        if (i > 1 && i < many - 1) continue;
        int place = i;
        sameText("bound " + v + (above ? " above " : " below ") + i, j -> real.bound(v, above, place, j),
            model.bound(v, above, i), Model.NONE);
      }
    }
  }

  void sameWork() {
    Model.Worked work = model.work;
    same("worked", real.worked(), work == null ? 0 : work.steps);
    same("stuck", real.stuck(), work == null ? Model.NONE : work.stuck);
    same("count(3)", real.count(3), model.count(3));
    sameText("value", i -> real.value(i), model.value(), Model.NONE);
  }

  void sameNodes() {
    for (int n = -1; n <= model.nodes.size(); n++) {
      for (int what = -1; what <= 16; what++) same("told " + n, real.told(n, what), model.told(n, what));
    }
    for (int what = -1; what <= 4; what++) same("count", real.count(what), model.count(what));
    sameLong("digest", real.digest(), model.digest());
  }

  interface Asked {
    int at(int i);
  }

  private void sameText(String call, Asked asked, String text, int without) {
    int many = text == null ? 0 : text.length();
    for (int i = -2; i <= many; i++) {
      if (i > 20 && i < many - 2 && i % 9 != many % 9) continue;
      same(call + " at " + i, asked.at(i), text == null ? without : Model.at(text, i));
    }
  }

  void same(String call, int got, int want) {
    sameLong(call, got, want);
  }

  void sameLong(String call, long got, long want) {
    if (got != want && wrong == null) wrong = calls + "-> " + call + " answered " + got + ", due is " + want;
  }
}
