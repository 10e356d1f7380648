import java.util.ArrayList;
import java.util.HashMap;
import java.util.HashSet;
import java.util.List;
import java.util.Map;
import java.util.Set;

/**
 * The document once more, in the plainest way that the whole of Java allows: objects, maps, texts and
 * exceptions. ModelTest holds the program against it. It takes right calls alone, for it looks at nothing twice.
 */
final class Model {
  static final int BAD = -1, FULL = -2, STATE = -4, SPENT = -6, FAULT = -7, NONE = -9;

  // ---- 1 nodes

  static final class Node {
    final int number, kind, v;
    Node owner;
    final List<Node> parts = new ArrayList<>();
    final List<Integer> labels = new ArrayList<>();

    Node(int number, int kind, int v) {
      this.number = number;
      this.kind = kind;
      this.v = v;
    }

    boolean contains(Node other) {
      if (this == other) return true;
      for (Node part : parts) if (part.contains(other)) return true;
      return false;
    }
  }

  static final int[] PARTS = {0, 0, 0, 1, 2, 0, 1, 2, 2, 3, 2, 2};
  static final String LETTERED = "2 3 6 7 8 ";

  final List<Node> nodes = new ArrayList<>();

  static boolean lettered(int kind) {
    return LETTERED.contains(kind + " ");
  }

  boolean isNode(int n) {
    return n >= 0 && n < nodes.size();
  }

  int node(int kind, int v, int a, int b, int c) {
    if (kind < 0 || kind > 11) return BAD;
    if (kind == 1 && v != 0 && v != 1) return BAD;
    if (lettered(kind) && (v < 0 || v > 25)) return BAD;
    int[] told = {a, b, c};
    Set<Integer> seen = new HashSet<>();
    for (int i = 0; i < PARTS[kind]; i++) {
      if (!isNode(told[i]) || nodes.get(told[i]).owner != null || !seen.add(told[i])) return BAD;
    }
    if (nodes.size() == 120) return FULL;
    Node node = new Node(nodes.size(), kind, kind < 2 || lettered(kind) ? v : NONE);
    for (int i = 0; i < PARTS[kind]; i++) {
      node.parts.add(nodes.get(told[i]));
      nodes.get(told[i]).owner = node;
    }
    nodes.add(node);
    return node.number;
  }

  int field(int record, int x, int part) {
    if (!isNode(record) || x < 0 || x > 25 || !isNode(part)) return BAD;
    Node whole = nodes.get(record), piece = nodes.get(part);
    if (piece.owner != null || piece.contains(whole)) return BAD;
    if (whole.kind != 5 || whole.labels.contains(x)) return STATE;
    if (whole.labels.size() == 6) return FULL;
    whole.labels.add(x);
    whole.parts.add(piece);
    piece.owner = whole;
    latest = null;
    return whole.labels.size();
  }

  int told(int n, int what) {
    if (!isNode(n) || what < 0 || what > 15) return BAD;
    Node node = nodes.get(n);
    if (what == 0) return node.kind;
    if (what == 1) return node.v;
    if (what == 2) return node.parts.size();
    if (what == 3) return node.owner == null ? NONE : node.owner.number;
    if (what < 10) return what - 4 < node.parts.size() ? node.parts.get(what - 4).number : NONE;
    return what - 10 < node.labels.size() ? node.labels.get(what - 10) : NONE;
  }

  // ---- 2 types

  abstract static class Type {
    abstract int level();
  }

  static final class Plain extends Type {
    final char sign;

    Plain(char sign) {
      this.sign = sign;
    }

    int level() {
      return 0;
    }
  }

  static final Plain WHOLE = new Plain('w'), TRUTH = new Plain('t');

  static final class Fun extends Type {
    final Type a, b;

    Fun(Type a, Type b) {
      this.a = a;
      this.b = b;
    }

    int level() {
      return Math.max(a.level(), b.level());
    }
  }

  static final class Rec extends Type {
    final List<Integer> labels;
    final List<Type> parts;

    Rec(List<Integer> labels, List<Type> parts) {
      this.labels = labels;
      this.parts = parts;
    }

    int level() {
      int most = 0;
      for (Type part : parts) most = Math.max(most, part.level());
      return most;
    }
  }

  static final class Var extends Type {
    final int number, level;
    final List<Type> below = new ArrayList<>(), above = new ArrayList<>();

    Var(int number, int level) {
      this.number = number;
      this.level = level;
    }

    int level() {
      return level;
    }
  }

  /** What is met on the way: SPENT or FAULT, and why. */
  static final class Met extends RuntimeException {
    private static final long serialVersionUID = 1;
    final int what;
    final String why;

    Met(int what, String why) {
      super(why, null, false, false);
      this.what = what;
      this.why = why;
    }
  }

  record Given(Type type, Integer scheme) { }

  final class Typed {
    final List<Var> variables = new ArrayList<>();
    int types, steps, where = NONE, answer, liftsUp, liftsDown;
    String why = "good";
    Type result;
    final Map<Type, Set<Type>> asked = new HashMap<>();

    void run(Node top) {
      try {
        result = typed(top, 0, 1, Map.of());
        answer = variables.size();
      } catch (Met met) {
        answer = met.what;
        why = met.why;
      }
    }

    Var fresh(int level) {
      if (variables.size() == 150) throw new Met(SPENT, "variables");
      counted(null);
      variables.add(new Var(variables.size(), level));
      return variables.get(variables.size() - 1);
    }

    <T extends Type> T counted(T type) {
      if (types == 600) throw new Met(SPENT, "types");
      types++;
      return type;
    }

    Type typed(Node node, int l, int depth, Map<Integer, Given> env) {
      try {
        if (depth > 60) throw new Met(SPENT, "typing deep");
        return typedNode(node, l, depth + 1, env);
      } catch (Met met) {
        if (where == NONE) where = node.number;
        throw met;
      }
    }

    Map<Integer, Given> with(Map<Integer, Given> env, int x, Type type, Integer scheme) {
      Map<Integer, Given> more = new HashMap<>(env);
      more.put(x, new Given(type, scheme));
      return more;
    }

    Type typedNode(Node n, int l, int d, Map<Integer, Given> env) {
      switch (n.kind) {
        case 0: return WHOLE;
        case 1: return TRUTH;
        case 2: {
          Given given = env.get(n.v);
          if (given == null) throw new Met(FAULT, "unbound");
          if (given.scheme() == null) return given.type();
          return anew(given.type(), given.scheme(), l, 1, new HashMap<>());
        }
        case 3: {
          Var x = fresh(l);
          Type body = typed(n.parts.get(0), l, d, with(env, n.v, x, null));
          return counted(new Fun(x, body));
        }
        case 4: {
          Type f = typed(n.parts.get(0), l, d, env);
          Type a = typed(n.parts.get(1), l, d, env);
          Var r = fresh(l);
          under(f, counted(new Fun(a, r)), 1);
          return r;
        }
        case 5: {
          List<Type> parts = new ArrayList<>();
          for (Node part : n.parts) parts.add(typed(part, l, d, env));
          return counted(new Rec(List.copyOf(n.labels), parts));
        }
        case 6: {
          Type part = typed(n.parts.get(0), l, d, env);
          Var v = fresh(l);
          under(part, counted(new Rec(List.of(n.v), List.of(v))), 1);
          return v;
        }
        case 7: {
          Type first = typed(n.parts.get(0), l + 1, d, env);
          return typed(n.parts.get(1), l, d, with(env, n.v, first, l));
        }
        case 8: {
          Var e = fresh(l + 1);
          under(typed(n.parts.get(0), l + 1, d, with(env, n.v, e, null)), e, 1);
          return typed(n.parts.get(1), l, d, with(env, n.v, e, l));
        }
        case 9: {
          under(typed(n.parts.get(0), l, d, env), TRUTH, 1);
          Var r = fresh(l);
          under(typed(n.parts.get(1), l, d, env), r, 1);
          under(typed(n.parts.get(2), l, d, env), r, 1);
          return r;
        }
        default: {
          under(typed(n.parts.get(0), l, d, env), WHOLE, 1);
          under(typed(n.parts.get(1), l, d, env), WHOLE, 1);
          return n.kind == 10 ? WHOLE : TRUTH;
        }
      }
    }

    void under(Type a, Type b, int depth) {
      steps++;
      if (steps > 1500) throw new Met(SPENT, "steps");
      if (depth > 60) throw new Met(SPENT, "under deep");
      if (!asked.computeIfAbsent(a, t -> new HashSet<>()).add(b)) return;
      if (a == WHOLE && b == WHOLE || a == TRUTH && b == TRUTH) return;
      if (a instanceof Fun f && b instanceof Fun g) {
        under(g.a, f.a, depth + 1);
        under(f.b, g.b, depth + 1);
      } else if (a instanceof Rec f && b instanceof Rec g) {
        for (int i = 0; i < g.labels.size(); i++) {
          int at = f.labels.indexOf(g.labels.get(i));
          if (at < 0) throw new Met(FAULT, "label");
          under(f.parts.get(at), g.parts.get(i), depth + 1);
        }
      } else if (a instanceof Var v && b.level() <= v.level) {
        v.above.add(b);
        for (Type low : List.copyOf(v.below)) under(low, b, depth + 1);
      } else if (b instanceof Var v && a.level() <= v.level) {
        v.below.add(a);
        for (Type high : List.copyOf(v.above)) under(a, high, depth + 1);
      } else if (a instanceof Var v) {
        liftsDown++;
        under(a, lifted(b, false, v.level, 1, new HashMap<>()), depth + 1);
      } else if (b instanceof Var v) {
        liftsUp++;
        under(lifted(a, true, v.level, 1, new HashMap<>()), b, depth + 1);
      } else {
        throw new Met(FAULT, "clash");
      }
    }

    Type lifted(Type t, boolean up, int m, int depth, Map<String, Var> made) {
      if (depth > 60) throw new Met(SPENT, "lifted deep");
      if (t.level() <= m) return t;
      if (t instanceof Fun f) {
        Type a = lifted(f.a, !up, m, depth + 1, made);
        return counted(new Fun(a, lifted(f.b, up, m, depth + 1, made)));
      }
      if (t instanceof Rec r) {
        List<Type> parts = new ArrayList<>();
        for (Type part : r.parts) parts.add(lifted(part, up, m, depth + 1, made));
        return counted(new Rec(r.labels, parts));
      }
      Var v = (Var) t;
      String key = v.number + (up ? "up" : "down");
      if (made.containsKey(key)) return made.get(key);
      List<Type> ahead = List.copyOf(up ? v.below : v.above);
      Var n = fresh(m);
      made.put(key, n);
      (up ? v.above : v.below).add(n);
      for (Type bound : ahead) {
        Type high = lifted(bound, up, m, depth + 1, made);
        (up ? n.below : n.above).add(high);
      }
      return n;
    }

    Type anew(Type t, int m, int l, int depth, Map<Var, Var> made) {
      if (depth > 60) throw new Met(SPENT, "anew deep");
      if (t.level() <= m) return t;
      if (t instanceof Fun f) {
        Type a = anew(f.a, m, l, depth + 1, made);
        return counted(new Fun(a, anew(f.b, m, l, depth + 1, made)));
      }
      if (t instanceof Rec r) {
        List<Type> parts = new ArrayList<>();
        for (Type part : r.parts) parts.add(anew(part, m, l, depth + 1, made));
        return counted(new Rec(r.labels, parts));
      }
      Var v = (Var) t;
      if (made.containsKey(v)) return made.get(v);
      Var n = fresh(l);
      made.put(v, n);
      for (Type low : v.below) n.below.add(anew(low, m, l, depth + 1, made));
      for (Type high : v.above) n.above.add(anew(high, m, l, depth + 1, made));
      return n;
    }
  }

  Typed latest;

  int type(int n) {
    if (!isNode(n)) return BAD;
    latest = new Typed();
    latest.run(nodes.get(n));
    return latest.answer;
  }

  static void tell(Type t, boolean out, Set<String> within, StringBuilder text) {
    if (text.length() > 400) return;
    if (t instanceof Plain p) {
      text.append(p.sign);
    } else if (t instanceof Fun f) {
      text.append('>');
      tell(f.a, !out, within, text);
      tell(f.b, out, within, text);
    } else if (t instanceof Rec r) {
      text.append('{');
      for (int i = 0; i < r.parts.size(); i++) {
        text.append((char) ('a' + r.labels.get(i)));
        tell(r.parts.get(i), out, within, text);
      }
      text.append('}');
    } else if (t instanceof Var v) {
      List<Type> bounds = out ? v.below : v.above;
      String key = v.number + (out ? "out" : "in");
      boolean alone = bounds.isEmpty() || within.contains(key);
      if (!alone) text.append(out ? '|' : '&');
      text.append('\'').append(v.number);
      if (alone) return;
      within.add(key);
      for (Type bound : bounds) tell(bound, out, within, text);
      within.remove(key);
      text.append('.');
    }
  }

  static String toldType(Type t, boolean out) {
    StringBuilder text = new StringBuilder();
    tell(t, out, new HashSet<>(), text);
    return text.substring(0, Math.min(400, text.length()));
  }

  static int at(String text, int i) {
    if (i == -1) return text.length();
    return i >= 0 && i < text.length() ? text.charAt(i) : NONE;
  }

  String type() {
    return latest == null || latest.result == null ? null : toldType(latest.result, true);
  }

  int variable(int v, int what) {
    if (latest == null || v < 0 || v >= latest.variables.size() || what < 0 || what > 2) return BAD;
    Var var = latest.variables.get(v);
    return what == 0 ? var.level : what == 1 ? var.below.size() : var.above.size();
  }

  /** The text of a bound; null: none such. */
  String bound(int v, boolean above, int i) {
    Var var = latest.variables.get(v);
    List<Type> row = above ? var.above : var.below;
    return i < 0 || i >= row.size() ? null : toldType(row.get(i), !above);
  }

  // ---- 4 working

  record Closure(Node function, Seen seen) { }

  record Seen(int x, Object value, Node rec, Seen next) { }

  record Fields(List<Integer> labels, List<Object> values) { }

  final class Worked {
    final int most;
    int steps, stuck = NONE, outcome;
    Object value;

    Worked(int most) {
      this.most = most;
    }

    void run(Node top) {
      try {
        value = go(top, null, 1);
      } catch (Met met) {
        outcome = met.what;
      }
    }

    Met met(int outcome, Node node) {
      stuck = node.number;
      return new Met(outcome, "");
    }

    Object go(Node n, Seen seen, int depth) {
      if (steps == most || depth == 61) throw met(2, n);
      steps++;
      int d = depth + 1;
      switch (n.kind) {
        case 0: return n.v;
        case 1: return n.v == 1;
        case 2: {
          Seen at = seen;
          while (at != null && at.x() != n.v) at = at.next();
          if (at == null) throw met(1, n);
          return at.rec() == null ? at.value() : go(at.rec().parts.get(0), at, d);
        }
        case 3: return new Closure(n, seen);
        case 4: {
          Object f = go(n.parts.get(0), seen, d);
          Object a = go(n.parts.get(1), seen, d);
          if (!(f instanceof Closure c)) throw met(1, n);
          return go(c.function().parts.get(0), new Seen(c.function().v, a, null, c.seen()), d);
        }
        case 5: {
          List<Object> values = new ArrayList<>();
          for (Node part : n.parts) values.add(go(part, seen, d));
          return new Fields(n.labels, values);
        }
        case 6: {
          Object r = go(n.parts.get(0), seen, d);
          if (!(r instanceof Fields f) || !f.labels().contains(n.v)) throw met(1, n);
          return f.values().get(f.labels().indexOf(n.v));
        }
        case 7: {
          Object first = go(n.parts.get(0), seen, d);
          return go(n.parts.get(1), new Seen(n.v, first, null, seen), d);
        }
        case 8:
          return go(n.parts.get(1), new Seen(n.v, null, n, seen), d);
        case 9: {
          Object t = go(n.parts.get(0), seen, d);
          if (!(t instanceof Boolean yes)) throw met(1, n);
          return go(n.parts.get(yes ? 1 : 2), seen, d);
        }
        default: {
          Object a = go(n.parts.get(0), seen, d);
          Object b = go(n.parts.get(1), seen, d);
          if (!(a instanceof Integer x) || !(b instanceof Integer y)) throw met(1, n);
          return n.kind == 10 ? (Object) (x + y) : (Object) (x < y);
        }
      }
    }
  }

  Worked work;

  int work(int n, int most) {
    if (!isNode(n) || most < 0 || most > 300) return BAD;
    work = new Worked(most);
    work.run(nodes.get(n));
    return work.outcome;
  }

  static void tellValue(Object value, StringBuilder text) {
    if (text.length() > 200) return;
    if (value instanceof Integer n) text.append(n);
    if (value instanceof Boolean b) text.append(b ? 'y' : 'n');
    if (value instanceof Closure) text.append('f');
    if (value instanceof Fields f) {
      text.append('{');
      for (int i = 0; i < f.values().size(); i++) {
        text.append((char) ('a' + f.labels().get(i)));
        tellValue(f.values().get(i), text);
      }
      text.append('}');
    }
  }

  /** The VALUE of the latest work(); null: no VALUE. */
  String value() {
    if (work == null || work.outcome != 0) return null;
    StringBuilder text = new StringBuilder();
    tellValue(work.value, text);
    return text.substring(0, Math.min(200, text.length()));
  }

  int count(int what) {
    switch (what) {
      case 0: return nodes.size();
      case 1: return latest == null ? 0 : latest.variables.size();
      case 2: return (int) nodes.stream().filter(n -> n.owner == null).count();
      case 3: return work == null ? NONE : work.outcome;
      default: return BAD;
    }
  }

  long digest() {
    long h = 17;
    for (int n = 0; n < nodes.size(); n++) for (int what = 0; what < 16; what++) h = 31 * h + told(n, what);
    for (int v = 0; v < count(1); v++) for (int what = 0; what < 3; what++) h = 31 * h + variable(v, what);
    return h;
  }
}
