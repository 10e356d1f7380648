/** Each sentence of '3 how a TYPE is TOLD', with its edges. The answers are written by hand. */
public final class EdgesOfTellingTest extends Checks {
  public static void main(String[] args) {
    signs();
    nothingOnThatSide();
    withinItself();
    figures();
    farNumbers();
    kept();
    keptThenAnother();
    end("EdgesOfTellingTest");
  }

  private static void signs() {
    sentence("A TYPE is TOLD by signs, the way out: w, t; > and both parts (the first the way in); { and for each label its letter and its TYPE, and };");
    Program p = new Program();
    due("WHOLE", p.typed(p.number(1)), "0 at -9, 0 steps w");
    due("TRUTH", p.typed(p.truth(1)), "0 at -9, 0 steps t");
    due("empty RECORD", p.typed(p.record()), "0 at -9, 0 steps {}");
    due("labels in their order", p.typed(p.record(Z, p.number(1), A, p.truth(1))), "0 at -9, 0 steps {zwat}");
    int six = p.record(25, p.number(1), 20, p.truth(1), 15, p.record(), 10, p.number(1), 5, p.number(1));
    p.x.field(six, 0, p.truth(0));
    due("six labels", p.typed(six), "0 at -9, 0 steps {zwutp{}kwfwat}");
    due("FUNCTION", p.typed(p.function(X, p.number(1))), "1 at -9, 0 steps >'0w");
    Program q = new Program();
    // x v0, x.a v1; the first part is told the way in, the second the way out.
    int fun = q.function(X, q.sum(q.get(A, q.name(X)), q.number(1)));
    due("the way in", q.typed(fun), "2 at -9, 3 steps >&'0{a&'1w.}.w");
    Program r = new Program();
    // f v0 UNDER FUNCTION OF (FUNCTION y y) TO '2: in the way in its first part is told the way out: y v1 has w BELOW it.
    int given = r.function(Y, r.name(Y));
    due("the way in of the way in", r.typed(r.function(F, r.apply(r.name(F), given))), "3 at -9, 1 steps >&'0>>'1'1'2.'2");
    Program s = new Program();
    // g is PICKED: '1 with {} and w BELOW it goes in where f is applied: there it is told the way out.
    int pick = s.pick(s.truth(1), s.record(), s.number(1));
    due("what goes in there comes out", s.typed(s.function(F, s.apply(s.name(F), pick))), "3 at -9, 4 steps >&'0>|'1{}w.'2.'2");
  }

  private static void nothingOnThatSide() {
    sentence("a VARIABLE: if nothing is BELOW it (the way in: ABOVE): its number's sign; else | (the way in: &), its number's sign, each that is BELOW (ABOVE), and a point.");
    Program p = new Program();
    due("neither", p.typed(p.function(X, p.name(X))), "1 at -9, 0 steps >'0'0");
    due("ABOVE alone, both ways", p.typed(p.function(X, p.record(A, p.name(X), B, p.sum(p.name(X), p.number(1))))),
        "1 at -9, 2 steps >&'0w.{a'0bw}");
    Program q = new Program();
    // f v0, f 5 v1, x v2, r v3: w goes into x, BELOW which it comes: told the way in it is its number's sign.
    int uses = q.function(F, q.record(A, q.apply(q.name(F), q.number(5)), B, q.name(F)));
    due("BELOW alone, the way in", q.typed(q.apply(uses, q.function(X, q.number(1)))), "4 at -9, 7 steps |'3{a|'1w.b|'0>'2w.}.");
    due("x", q.variable(2), "0 1 0");
    due("f, told the way in", q.above(0, 0), ">w'1");
    Program r = new Program();
    due("each that is BELOW", r.typed(r.pick(r.truth(1), r.record(), r.pick(r.truth(0), r.number(1), r.truth(1)))),
        "2 at -9, 8 steps |'0{}wt.");
    Program s = new Program();
    int all = s.record(A, s.sum(s.name(X), s.number(1)), B, s.get(C, s.name(X)), C, s.apply(s.name(X), s.number(2)));
    due("each that is ABOVE", s.typed(s.function(X, all)), "3 at -9, 4 steps >&'0w{c'1}>w'2.{awb'1c'2}");
  }

  private static void withinItself() {
    sentence("A VARIABLE that is TOLD the same way within itself is its number's sign alone.");
    Program p = new Program();
    // e v0, BELOW it {a'0}; anew v1, BELOW it {a'1}.
    due("the way out", p.typed(p.rec(F, p.record(A, p.name(F)), p.name(F))), "2 at -9, 1 steps |'1{a'1}.");
    Program q = new Program();
    int loop = q.rec(F, q.function(X, q.apply(q.name(F), q.name(X))), q.name(F));
    due("the way in", q.typed(loop), "6 at -9, 5 steps |'3>&'4'4.'5.");
    Program r = new Program();
    // y v2 comes out within itself going out, and there goes in.
    int self = r.apply(r.function(X, r.apply(r.name(X), r.name(X))), r.function(Y, r.name(Y)));
    due("the other way it is told", r.typed(self), "4 at -9, 10 steps |'3>&'2&'1'3..|'2>&'2&'1'3..'2..");
    Program s = new Program();
    // Beside itself it is told again: v1 of the PICK in both.
    int pick = s.let(A, s.number(1), s.function(X, s.pick(s.truth(1), s.name(X), s.number(1))));
    due("once", s.typed(pick), "2 at -9, 3 steps >&'0'1.|'1w.");
    Program t = new Program();
    int twice = t.apply(t.function(X, t.record(A, t.name(X), B, t.name(X))), t.number(1));
    due("twice, beside", t.typed(twice), "2 at -9, 3 steps |'1{a|'0w.b|'0w.}.");
  }

  private static void figures() {
    sentence("Number's sign: ' and its number in figures.");
    Program p = new Program();
    int node = p.number(1);
    StringBuilder due = new StringBuilder();
    for (int i = 0; i < 59; i++) {
      node = p.function(X, node);
      due.append(">'").append(i);
    }
    due("0 to 58", p.typed(node), "59 at -9, 0 steps " + due + "w");
    for (int before : new int[] {127, 128, 135, 149}) {
      Program q = new Program();
      int id = q.let(Z, filler(q, before), q.function(X, q.name(X)));
      due("VARIABLE " + before, q.typed(id), before + 1 + " at -9, 0 steps >'" + before + "'" + before);
    }
    for (int before : new int[] {8, 9, 98, 99}) {
      Program q = new Program();
      int first = q.number(1);
      for (int i = 0; i < Math.min(before, 50); i++) first = q.function(X, first);
      int second = q.number(1);
      for (int i = 50; i < before; i++) second = q.function(X, second);
      int id = q.let(Z, q.record(A, first, B, second), q.function(X, q.name(X)));
      due("VARIABLE " + before, q.typed(id), before + 1 + " at -9, 0 steps >'" + before + "'" + before);
    }
  }

  /** A NODE of which many VARIABLES come, 127 to 150, and no STEPS. */
  static int filler(Program p, int many) {
    int last = p.record(A, p.name(5), B, p.name(5));
    int rest = many - 127;
    for (int i = 4; i >= 0; i--) {
      if (rest >= 1 << i) {
        p.x.field(last, 2 + i, p.name(i));
        rest -= 1 << i;
      }
    }
    // 1, 2, 4, 8, 16, 32 in the LETS; 64 and the rest in the last.
    int[] firsts = new int[6];
    firsts[0] = p.function(X, p.name(X));
    for (int i = 1; i < 6; i++) firsts[i] = p.record(A, p.name(i - 1), B, p.name(i - 1));
    for (int i = 5; i >= 0; i--) last = p.let(i, firsts[i], last);
    return last;
  }

  /** The numbers of a text of signs, each so much greater. */
  private static String shifted(String signs, int by) {
    StringBuilder text = new StringBuilder();
    for (int i = 0; i < signs.length(); i++) {
      text.append(signs.charAt(i));
      if (signs.charAt(i) != '\'') continue;
      int end = i + 1;
      while (end < signs.length() && Character.isDigit(signs.charAt(end))) end++;
      text.append(Integer.parseInt(signs.substring(i + 1, end)) + by);
      i = end - 1;
    }
    return text.toString();
  }

  private static int far(Program p, int which) {
    switch (which) {
      case 0: return p.rec(F, p.function(X, p.apply(p.name(F), p.name(X))), p.name(F));
      case 1: return p.apply(p.function(X, p.apply(p.name(X), p.name(X))), p.function(Y, p.name(Y)));
      case 2: return p.rec(F, p.record(A, p.function(X, p.name(X)), B, p.get(A, p.name(F))), p.name(F));
      case 3: {
        int same = p.apply(p.name(Z), p.record(A, p.name(Y), B, p.name(Y)));
        return p.function(Z, p.let(A, p.function(Y, same), p.name(A)));
      }
      case 4: return p.function(Z, p.let(A, p.apply(p.name(Z), p.function(Y, p.name(Y))), p.name(A)));
      default: return p.function(X, p.record(A, p.get(A, p.name(X)), B, p.sum(p.name(X), p.name(X))));
    }
  }

  /** What is told of the first VARIABLES is told of far ones, too. */
  private static void farNumbers() {
    String[] due = {"6 at -9, 5 steps |'3>&'4'4.'5.", "4 at -9, 10 steps |'3>&'2&'1'3..|'2>&'2&'1'3..'2..",
        "6 at -9, 4 steps |'3{a>'4'4b|'5>'4'4.}.", "7 at -9, 2 steps >&'0>{a'3b'3}'4.>&'5'3.|'6'4.",
        "7 at -9, 2 steps >&'0>>'3|'4'3.'5.|'6'5.", "2 at -9, 3 steps >&'0{a'1}w.{a'1bw}"};
    for (int i = 0; i < due.length; i++) {
      Program p = new Program();
      due("near", p.typed(far(p, i)), due[i]);
      Program q = new Program();
      int many = Character.getNumericValue(due[i].charAt(0));
      due("far", q.typed(q.let(A, filler(q, 140), far(q, i))), 140 + many + shifted(due[i].substring(1), 140));
      for (int v = 0; v < many; v++) {
        due("LEVEL, BELOW, ABOVE", q.variable(140 + v), p.variable(v));
        for (int side = 0; side < 2; side++) {
          for (int j = 0; j < p.x.variable(v, 1 + side); j++) {
            String near = side == 0 ? p.below(v, j) : p.above(v, j);
            due("bound", side == 0 ? q.below(140 + v, j) : q.above(140 + v, j), shifted(near, 140));
          }
        }
      }
    }
  }

  /** A RECORD of 386 signs and those of its e, behind which two signs stand: w of the last FUNCTION and }. */
  private static int long386(Program p, int e) {
    int small = p.record(A, p.number(1), B, p.number(1), C, p.number(1), D, p.number(1), E, p.number(1));
    p.x.field(small, F, p.number(1));
    int middle = p.record(A, p.name(0), B, p.name(0), C, p.name(0), D, p.name(0), E, p.name(0));
    p.x.field(middle, F, p.name(0));
    // small 2 + 6 * 2 = 14, middle 2 + 6 * 15 = 92; 2 + 4 * 93 = 374, 1 + e, 1 + 10.
    int big = p.record(A, p.name(1), B, p.name(1), C, p.name(1), D, p.name(1), E, e);
    p.x.field(big, F, p.function(X, p.function(Y, p.function(Z, p.number(1)))));
    return p.let(0, small, p.let(1, middle, big));
  }

  /** 13, 14 or 15 signs. */
  private static int ofSigns(Program p, int signs) {
    int many = signs == 14 ? 6 : signs == 13 ? 4 : 5;
    int record = p.record();
    for (int i = 0; i < many; i++) p.x.field(record, i, p.number(1));
    return signs == 14 ? record : p.function(X, record);
  }

  private static void kept() {
    sentence("400 bytes are kept.");
    for (int e = 13; e <= 15; e++) {
      Program p = new Program();
      due("typed", p.x.type(long386(p, ofSigns(p, e))), e == 14 ? 3 : 4);
      int all = 386 + e;
      due("signs of " + all, p.x.sign(-1), Math.min(all, 400));
      due("the first", p.x.sign(0), '{');
      due("the 399th", p.x.sign(398), all == 399 ? '}' : all == 400 ? 'w' : e == 15 ? '3' : 0);
      due("the 400th", p.x.sign(399), all == 399 ? NONE : all == 400 ? '}' : 'w');
      due("the 401st", p.x.sign(400), NONE);
      due("behind it", p.x.sign(401), NONE);
    }
    Program q = new Program();
    int f = q.function(G, q.apply(q.name(G), long386(q, ofSigns(q, 15))));
    due("a bound", q.x.type(f) > 0 ? 1 : 0, 1);
    due("of a bound 400, too", q.x.bound(0, true, 0, -1), 400);
    due("its first", q.x.bound(0, true, 0, 0), '>');
    due("its second", q.x.bound(0, true, 0, 1), '{');
    due("its 400th", q.x.bound(0, true, 0, 399) == NONE ? 0 : 1, 1);
    due("no 401st", q.x.bound(0, true, 0, 400), NONE);
  }

  /** What was left open where the signs ended is not open for the next TYPE that is told. */
  private static void keptThenAnother() {
    Program p = new Program();
    // e in a RECORD of more than 400 signs: the row ends within e itself.
    int big = long386(p, p.number(1));
    int rec = p.rec(G, p.record(A, big, B, big(p), C, p.name(G)), p.name(G));
    due("typed", p.x.type(rec) > 0 ? 1 : 0, 1);
    due("400", p.x.sign(-1), 400);
    int e = p.x.count(1);
    StringBuilder whole = new StringBuilder();
    for (int i = 0; i < 400; i++) whole.append((char) p.x.sign(i));
    due("it begins with a VARIABLE", whole.substring(0, 2), "|'");
    due("BELOW the first it is told again", p.x.bound(0, false, 0, -1), 400);
    due("and begins with a RECORD", p.x.bound(0, false, 0, 0), '{');
    due("typed again", p.x.type(rec), e);
    due("and told again", p.signs(), whole.toString());
    due("another", p.typed(p.rec(G, p.record(A, p.name(G)), p.name(G))), "2 at -9, 1 steps |'1{a'1}.");
  }

  private static int big(Program p) {
    int record = p.record();
    for (int i = 0; i < 6; i++) p.x.field(record, i, p.record(A, p.number(1), B, p.number(2)));
    return record;
  }
}
