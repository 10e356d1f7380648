/**
 * Each sentence of the document that names an edge of WORKING: '4 WORKING', promises 11 to 16. The answers are written
 * by hand.
 */
public final class EdgesOfWorkTest extends Checks {
  private static final int MIN = Integer.MIN_VALUE, MAX = Integer.MAX_VALUE;

  public static void main(String[] args) {
    recIsWorkedEachTime();
    whatFunctionsSee();
    order();
    sumWraps();
    less();
    stuckByKind();
    steps();
    mostSteps();
    spentOrStuckFirst();
    withinOneAnother();
    withinByKind();
    told();
    figures();
    kept();
    workRefused();
    value();
    worked();
    stuck();
    count();
    digest();
    manyCalls();
    end("EdgesOfWorkTest");
  }

  private static void recIsWorkedEachTime() {
    sentence("and what a REC binds (that REC's first part, seen with itself: worked each time that the NAME is).");
    Program p = new Program();
    // REC, SUM, and twice NAME, SUM, 1, 2.
    due("each time", p.worked(p.rec(A, p.sum(p.number(1), p.number(2)), p.sum(p.name(A), p.name(A))), 99), "0 at -9, 10 steps 6");
    due("a LET's once", p.worked(p.let(A, p.sum(p.number(1), p.number(2)), p.sum(p.name(A), p.name(A))), 99),
        "0 at -9, 7 steps 6");
    int never = p.rec(A, p.name(Z), p.number(4));
    due("never", p.worked(never, 99), "0 at -9, 2 steps 4");
    int stuck = p.name(Z);
    due("STUCK in it", p.worked(p.rec(A, stuck, p.name(A)), 99), "1 at " + stuck + ", 3 steps ");
    // It is seen where it stands, not where its NAME is.
    int inner = p.let(B, p.number(2), p.name(A));
    due("seen where it stands", p.worked(p.let(B, p.number(1), p.rec(A, p.name(B), inner)), 99), "0 at -9, 7 steps 1");
    Program q = new Program();
    // f n = n < 1 ? 0 : f (n + -1): REC, and for each n APPLY f, FUNCTION, what it is given, PICK LESS n 1 ..
    int again = q.apply(q.name(F), q.sum(q.name(X), q.number(-1)));
    int f = q.function(X, q.pick(q.less(q.name(X), q.number(1)), q.number(0), again));
    // REC 1, APPLY 2, NAME 3, FUNCTION 4, NUMBER 5; PICK, LESS, x, 1: 9; APPLY, f, FUNCTION, SUM, x, -1: 15; 19; 0: 20.
    due("seen with itself", q.worked(q.rec(F, f, q.apply(q.name(F), q.number(1))), 99), "0 at -9, 20 steps 0");
  }

  private static void whatFunctionsSee() {
    sentence("VALUES: wholes, truths, FUNCTIONS with what they see, records,");
    Program p = new Program();
    int f = p.let(X, p.number(1), p.let(F, p.function(Y, p.name(X)), p.let(X, p.number(2), p.apply(p.name(F), p.name(X)))));
    due("where it was made", p.worked(f, 99), "0 at -9, 10 steps 1");
    int nearest = p.apply(p.function(X, p.apply(p.function(X, p.name(X)), p.number(2))), p.number(1));
    due("the nearest", p.worked(nearest, 99), "0 at -9, 7 steps 2");
    int other = p.apply(p.function(X, p.apply(p.function(Y, p.name(X)), p.number(2))), p.number(1));
    due("another one's", p.worked(other, 99), "0 at -9, 7 steps 1");
    int free = p.name(Y);
    int late = p.let(F, p.function(X, free), p.let(Y, p.number(1), p.apply(p.name(F), p.number(2))));
    due("not what comes later", p.worked(late, 99), "1 at " + free + ", 8 steps ");
    int part = p.name(X);
    int whole = p.let(X, p.number(7), part);
    due("bound", p.worked(whole, 99), "0 at -9, 3 steps 7");
    due("as a whole program", p.worked(part, 99), "1 at " + part + ", 1 steps ");
    int record = p.let(X, p.number(3), p.get(B, p.record(A, p.number(1), B, p.name(X), C, p.number(9))));
    due("a FIELD of three", p.worked(record, 99), "0 at -9, 7 steps 3");
    Program q = new Program();
    for (int label = 0; label < 3; label++) {
      int within = q.record(C, q.number(0), B, q.number(1), A, q.record(A, q.number(5)));
      due("the FIELD by its label", q.worked(q.get(label, q.record(Z, q.number(8), label, q.get(label, within))), 99),
          "0 at -9, 9 steps " + (label == 2 ? "0" : label == 1 ? "1" : "{a5}"));
    }
  }

  private static void order() {
    sentence("In order: APPLY: both parts, then the BODY; PICK: the first, then one of the others; LET: the first, then the second.");
    Program p = new Program();
    int one = p.name(A), two = p.name(B), body = p.name(C);
    int apply = p.apply(p.function(X, body), two);
    due("APPLY's second", p.worked(apply, 99), "1 at " + two + ", 3 steps ");
    due("APPLY's first", p.worked(p.apply(one, apply), 99), "1 at " + one + ", 2 steps ");
    Program q = new Program();
    body = q.name(C);
    due("then the BODY", q.worked(q.apply(q.function(X, body), q.number(1)), 99), "1 at " + body + ", 4 steps ");
    int second = q.name(B);
    due("both ahead of whether it is a FUNCTION", q.worked(q.apply(q.number(1), second), 99), "1 at " + second + ", 3 steps ");
    Program r = new Program();
    int yes = r.name(A), no = r.name(B);
    int pick = r.pick(r.truth(1), yes, no);
    due("PICK, so", r.worked(pick, 99), "1 at " + yes + ", 3 steps ");
    Program s = new Program();
    yes = s.name(A);
    no = s.name(B);
    due("PICK, not", s.worked(s.pick(s.truth(0), yes, no), 99), "1 at " + no + ", 3 steps ");
    int first = s.name(C);
    due("PICK's first", s.worked(s.pick(first, s.number(1), s.number(2)), 99), "1 at " + first + ", 2 steps ");
    first = s.name(C);
    due("LET's first", s.worked(s.let(X, first, s.name(D)), 99), "1 at " + first + ", 2 steps ");
    second = s.name(D);
    due("LET's second", s.worked(s.let(X, s.number(1), second), 99), "1 at " + second + ", 3 steps ");
    first = s.name(C);
    due("SUM's first", s.worked(s.sum(first, s.name(D)), 99), "1 at " + first + ", 2 steps ");
    first = s.name(C);
    due("LESS's first", s.worked(s.less(first, s.name(D)), 99), "1 at " + first + ", 2 steps ");
    first = s.name(C);
    due("a RECORD's first", s.worked(s.record(Z, first, A, s.name(D)), 99), "1 at " + first + ", 2 steps ");
    second = s.name(C);
    due("a RECORD's second", s.worked(s.record(Z, s.number(1), A, second), 99), "1 at " + second + ", 3 steps ");
  }

  private static void sumWraps() {
    sentence("SUM wraps.");
    int[][] sums = {{MAX, 1, MIN}, {1, MAX, MIN}, {MIN, -1, MAX}, {-1, MIN, MAX}, {MAX, MAX, -2}, {MIN, MIN, 0},
        {MAX, MIN, -1}, {MAX, 0, MAX}, {MIN, 0, MIN}, {0, 0, 0}, {5, -5, 0}, {1 << 30, 1 << 30, MIN}, {MAX - 1, 1, MAX},
        {MIN + 1, -1, MIN}};
    for (int[] sum : sums) {
      Program p = new Program();
      due(sum[0] + " + " + sum[1], p.worked(p.sum(p.number(sum[0]), p.number(sum[1])), 3), "0 at -9, 3 steps " + sum[2]);
    }
    Program p = new Program();
    due("and back", p.worked(p.sum(p.sum(p.number(MAX), p.number(1)), p.number(-1)), 9), "0 at -9, 5 steps 2147483647");
  }

  private static void less() {
    sentence("10 SUM, 11 LESS (two).");
    int[][] pairs = {{1, 2, 1}, {2, 1, 0}, {1, 1, 0}, {-1, 0, 1}, {0, -1, 0}, {MIN, MAX, 1}, {MAX, MIN, 0}, {MIN, MIN, 0},
        {MAX, MAX, 0}, {MIN, MIN + 1, 1}, {MAX - 1, MAX, 1}, {MIN, 0, 1}, {0, MIN, 0}, {-2, -1, 1}, {0, 0, 0}};
    for (int[] pair : pairs) {
      Program p = new Program();
      int less = p.less(p.number(pair[0]), p.number(pair[1]));
      due(pair[0] + " < " + pair[1], p.worked(less, 3), "0 at -9, 3 steps " + (pair[2] == 1 ? "y" : "n"));
    }
  }

  /** A whole, a truth, a FUNCTION, a RECORD with a, a RECORD without. */
  private static int ofSort(Program p, int sort) {
    switch (sort) {
      case 0: return p.number(1);
      case 1: return p.truth(1);
      case 2: return p.function(X, p.name(X));
      case 3: return p.record(A, p.number(1));
      default: return p.record(B, p.number(1));
    }
  }

  private static int wanting(Program p, int form, int part) {
    switch (form) {
      case 0: return p.sum(part, p.number(1));
      case 1: return p.sum(p.number(1), part);
      case 2: return p.less(part, p.number(1));
      case 3: return p.less(p.number(1), part);
      case 4: return p.pick(part, p.number(1), p.number(2));
      case 5: return p.apply(part, p.number(1));
      default: return p.get(A, part);
    }
  }

  private static void stuckByKind() {
    sentence("1 STUCK (a NAME that is not bound; something that is no function, record, truth, whole where that is wanted; no such FIELD)");
    int[] wants = {0, 0, 0, 0, 1, 2, 3};
    for (int form = 0; form < 7; form++) {
      for (int sort = 0; sort < 5; sort++) {
        Program p = new Program();
        int node = wanting(p, form, ofSort(p, sort));
        boolean good = sort == wants[form];
        due("form " + form + " of sort " + sort, p.x.work(node, 99), good ? 0 : 1);
        due("stuck", p.x.stuck(), good ? NONE : node);
        due("value", p.x.value(-1), good ? 1 : NONE);
        // STUCK within others is STUCK there.
        int outer = p.let(Z, node, p.number(1));
        due("within a LET", p.x.work(outer, 99), good ? 0 : 1);
        due("stuck", p.x.stuck(), good ? NONE : node);
      }
    }
    Program p = new Program();
    int name = p.name(A);
    due("a NAME", p.worked(name, 9), "1 at " + name + ", 1 steps ");
    due("empty RECORD", p.worked(p.get(A, p.record()), 9), "1 at 2, 2 steps ");
  }

  private static void steps() {
    sentence("STEPS: NODES begun.");
    Program p = new Program();
    due("NUMBER", p.worked(p.number(1), 9), "0 at -9, 1 steps 1");
    due("TRUTH", p.worked(p.truth(0), 9), "0 at -9, 1 steps n");
    due("FUNCTION: not its BODY", p.worked(p.function(A, p.sum(p.number(1), p.number(2))), 9), "0 at -9, 1 steps f");
    due("RECORD", p.worked(p.record(A, p.number(1), B, p.number(2)), 9), "0 at -9, 3 steps {a1b2}");
    due("FIELD", p.worked(p.get(B, p.record(A, p.number(1), B, p.number(2))), 9), "0 at -9, 4 steps 2");
    due("APPLY: the BODY, too", p.worked(p.apply(p.function(A, p.name(A)), p.number(3)), 9), "0 at -9, 4 steps 3");
    due("LET", p.worked(p.let(A, p.number(3), p.name(A)), 9), "0 at -9, 3 steps 3");
    due("REC", p.worked(p.rec(A, p.number(3), p.name(A)), 9), "0 at -9, 3 steps 3");
    due("PICK: one of the others", p.worked(p.pick(p.truth(0), p.sum(p.number(1), p.number(1)), p.number(3)), 9),
        "0 at -9, 3 steps 3");
    due("SUM", p.worked(p.sum(p.number(3), p.number(4)), 9), "0 at -9, 3 steps 7");
  }

  /** 275 STEPS and two more for each more: they are more than there are NODES, for a REC's part is worked each time. */
  private static int many(Program p, int more) {
    int part = p.number(1);
    for (int i = 0; i < 11; i++) part = p.sum(part, p.number(1));
    int all = p.name(A);
    for (int i = 0; i < 10; i++) all = p.sum(all, p.name(A));
    // 11 NAMES with 23 NODES each: 264; 10 SUMS: 274; the REC: 275.
    for (int i = 0; i < more; i++) all = p.sum(all, p.number(1));
    return p.rec(A, part, all);
  }

  private static void mostSteps() {
    sentence("2 SPENT (a STEP more than told,");
    Program p = new Program();
    int node = many(p, 12);
    due("299", p.worked(node, 300), "0 at -9, 299 steps 144");
    due("299 of 299", p.worked(node, 299), "0 at -9, 299 steps 144");
    int last = p.x.told(p.x.told(node, 5), 5);
    due("299 of 298", p.worked(node, 298), "2 at " + last + ", 298 steps ");
    Program q = new Program();
    node = q.let(X, q.number(1), q.pick(q.truth(1), many(q, 11), q.number(2)));
    // LET, NUMBER, PICK, TRUTH ahead of 297.
    due("301 of 300", q.x.work(node, 300), 2);
    due("STEPS", q.x.worked(), 300);
    due("no VALUE", q.x.value(-1), NONE);
    Program r = new Program();
    node = r.record(A, many(r, 12));
    due("300 of 300", r.worked(node, 300), "0 at -9, 300 steps {a144}");
    due("300 of 299", r.x.work(node, 299), 2);
    Program s = new Program();
    // LET 1, NUMBER 2, SUM 3, NAME 4, NUMBER 5.
    int let = s.let(A, s.number(1), s.sum(s.name(A), s.number(2)));
    int[] due = {let, 0, let - 1, let - 3, let - 2};
    for (int n = 0; n < 5; n++) due("n " + n, s.worked(let, n), "2 at " + due[n] + ", " + n + " steps ");
    due("n 5", s.worked(let, 5), "0 at -9, 5 steps 3");
    due("n 6", s.worked(let, 6), "0 at -9, 5 steps 3");
  }

  private static void spentOrStuckFirst() {
    Program p = new Program();
    int name = p.name(A);
    int sum = p.sum(p.number(1), name);
    due("STUCK at the last", p.worked(sum, 3), "1 at " + name + ", 3 steps ");
    due("SPENT ahead of it", p.worked(sum, 2), "2 at " + name + ", 2 steps ");
    // What is no whole is found out behind both parts, by no STEP more.
    int bad = p.sum(p.truth(1), p.number(1));
    due("no whole", p.worked(bad, 3), "1 at " + bad + ", 3 steps ");
    due("SPENT ahead of that", p.worked(bad, 2), "2 at " + (bad - 1) + ", 2 steps ");
  }

  private static int fields(Program p, int many, int part) {
    int whole = part;
    for (int i = 0; i < many; i++) whole = p.get(A, whole);
    return whole;
  }

  private static void withinOneAnother() {
    sentence("or the 61st NODE begun within one another).");
    Program p = new Program();
    int deep = fields(p, 59, p.number(1));
    due("60", p.worked(deep, 300), "1 at 1, 60 steps ");
    int deeper = p.get(A, deep);
    due("61", p.worked(deeper, 300), "2 at 0, 60 steps ");
    due("SPENT by STEPS there", p.worked(deeper, 60), "2 at 0, 60 steps ");
    due("SPENT by STEPS ahead of it", p.worked(deeper, 59), "2 at 1, 59 steps ");
    Program q = new Program();
    int sums = q.number(1);
    for (int i = 0; i < 59; i++) sums = q.sum(q.number(1), sums);
    due("60 and beside", q.worked(sums, 300), "0 at -9, 119 steps 60");
    Program r = new Program();
    // A FUNCTION's BODY is not begun with it.
    int body = r.number(1);
    for (int i = 0; i < 100; i++) body = r.function(A, body);
    due("not begun", r.worked(body, 300), "0 at -9, 1 steps f");
    Program s = new Program();
    // A REC's part is begun within the NAME: each round is two deeper.
    int sum = s.sum(s.name(A), s.number(1));
    int rec = s.rec(A, sum, s.name(A));
    // REC 1, NAME 2, SUM 3, NAME 4 .. NAME 60.
    due("a REC of itself", s.worked(rec, 300), "2 at " + sum + ", 60 steps ");
    due("by STEPS first", s.x.work(rec, 59), 2);
    due("STEPS", s.x.worked(), 59);
  }

  private static int within(Program p, int form, int part) {
    switch (form) {
      case 0: return p.apply(part, p.number(1));
      case 1: return p.apply(p.function(A, p.number(1)), part);
      case 2: return p.apply(p.function(A, part), p.number(1));
      case 3: return p.record(A, part);
      case 4: return p.get(A, part);
      case 5: return p.let(A, part, p.number(1));
      case 6: return p.let(A, p.number(1), part);
      case 7: return p.rec(A, p.number(1), part);
      case 8: return p.pick(part, p.number(1), p.number(1));
      case 9: return p.pick(p.truth(1), part, p.number(1));
      case 10: return p.pick(p.truth(0), p.number(1), part);
      case 11: return p.sum(part, p.number(1));
      case 12: return p.sum(p.number(1), part);
      case 13: return p.less(part, p.number(1));
      default: return p.less(p.number(1), part);
    }
  }

  private static void withinByKind() {
    for (int form = 0; form < 15; form++) {
      for (int many = 58; many <= 59; many++) {
        Program p = new Program();
        int deep = within(p, form, fields(p, many, p.name(Z)));
        due(many + 2 + " with form " + form, p.x.work(deep, 300), many - 57);
        due("stuck", p.x.stuck(), 0);
      }
    }
    for (int many = 57; many <= 58; many++) {
      Program p = new Program();
      // REC, NAME, FIELDS, NAME.
      due("in a REC's part", p.x.work(p.rec(A, fields(p, many - 1, p.name(Z)), p.name(A)), 300), 1);
      Program q = new Program();
      due("one more", q.x.work(q.rec(A, fields(q, many, q.name(Z)), q.name(A)), 300), many - 56);
      due("stuck", q.x.stuck(), 0);
    }
  }

  private static void told() {
    sentence("A VALUE is TOLD: a whole by its figures (- ahead), y, n, f, { and for each label (in the order of its FIELDS) its letter and its VALUE, and };");
    Program p = new Program();
    due("y", p.worked(p.truth(1), 1), "0 at -9, 1 steps y");
    due("n", p.worked(p.truth(0), 1), "0 at -9, 1 steps n");
    due("f", p.worked(p.function(A, p.name(B)), 1), "0 at -9, 1 steps f");
    due("empty", p.worked(p.record(), 1), "0 at -9, 1 steps {}");
    int six = p.record(Z, p.number(-1), A, p.truth(1), Y, p.truth(0), B, p.function(A, p.name(A)), X, p.record());
    p.x.field(six, C, p.record(Z, p.number(MIN), A, p.number(0)));
    due("six", p.worked(six, 99), "0 at -9, 9 steps {z-1ayynbfx{}c{z-2147483648a0}}");
    // The latest work()'s VALUE stays what it was when its RECORD gets a FIELD more.
    Program q = new Program();
    int record = q.record(A, q.number(1));
    due("one", q.worked(record, 99), "0 at -9, 2 steps {a1}");
    due("FIELD", q.x.field(record, B, q.number(2)), 2);
    due("as it was", q.value(), "{a1}");
    due("anew", q.worked(record, 99), "0 at -9, 3 steps {a1b2}");
  }

  private static void figures() {
    for (int n : new int[] {0, 1, 9, 10, 11, 99, 100, 101, 1000000000, 999999999, MAX, MAX - 1, -1, -9, -10, -100, MIN, MIN + 1}) {
      Program p = new Program();
      due("a whole", p.worked(p.number(n), 1), "0 at -9, 1 steps " + n);
      due("how many", p.x.value(-1), Integer.toString(n).length());
    }
  }

  /** A RECORD of 5 RECORDS and f: 168 signs and those of f. */
  private static int ofSigns(Program p, int f) {
    int big = p.record();
    // {, 5 times letter and { and 6 times letter and 4 figures and }: 1 + 5 * 33; letter and f; }.
    for (int i = 0; i < 5; i++) {
      int six = p.record();
      for (int j = 0; j < 6; j++) p.x.field(six, j, p.number(1000 + j));
      p.x.field(big, i, six);
    }
    p.x.field(big, F, f);
    return big;
  }

  private static void kept() {
    sentence("200 bytes are kept.");
    // f is a RECORD of two wholes of ten figures and one of n: 168 + 2 + 11 + 11 + 1 + n = 193 + n.
    int[] lasts = {100000, 1000000, 10000000};
    for (int i = 0; i < 3; i++) {
      Program p = new Program();
      int f = p.record(A, p.number(MAX), B, p.number(MAX), C, p.number(lasts[i]));
      due("work", p.x.work(ofSigns(p, f), 99), 0);
      int all = 199 + i;
      due("signs of " + all, p.x.value(-1), Math.min(all, 200));
      due("the first", p.x.value(0), '{');
      due("the 199th", p.x.value(198), i == 0 ? '}' : i == 1 ? '}' : '0');
      due("the 200th", p.x.value(199), i == 0 ? NONE : '}');
      due("the 198th", p.x.value(197), i == 0 ? '}' : '0');
      due("the 201st", p.x.value(200), NONE);
    }
    Program q = new Program();
    // 191 signs, then -2147483648: its 9 first signs are kept.
    int f = q.record(A, q.number(MAX), B, q.number(MAX), C, q.number(MIN));
    due("work", q.x.work(ofSigns(q, f), 99), 0);
    due("200", q.x.value(-1), 200);
    due("the last", q.x.value(199), '6');
    due("the next work()", q.worked(f, 9), "0 at -9, 4 steps {a2147483647b2147483647c-2147483648}");
    Program r = new Program();
    int deep = r.name(A);
    for (int i = 0; i < 40; i++) deep = r.record(A, deep);
    int twice = r.let(A, r.let(A, r.number(7), deep), r.name(A));
    due("40 RECORDS", r.x.work(twice, 300), 0);
    due("121 signs", r.x.value(-1), 121);
    due("the whole", r.x.value(80), '7');
    due("the first end", r.x.value(81), '}');
    due("the last end", r.x.value(120), '}');
    due("behind it", r.x.value(121), NONE);
  }

  private static void workRefused() {
    sentence("A NODE is worked as a whole program with n STEPS at most (0 .. 300): OUTCOME. BAD.");
    Program p = new Program();
    for (int node : new int[] {-1, 0, MIN, MAX}) due("of none", p.x.work(node, 1), BAD);
    due("no OUTCOME", p.x.count(3), NONE);
    int one = p.number(5);
    for (int n : new int[] {-1, 301, MIN, MAX}) due("n " + n, p.x.work(one, n), BAD);
    due("no OUTCOME still", p.x.count(3), NONE);
    due("0", p.x.work(one, 0), 2);
    due("1", p.x.work(one, 1), 0);
    due("300", p.x.work(one, 300), 0);
    for (int node : new int[] {-1, 1, 120, MIN, MAX}) due("NODE " + node, p.x.work(node, 300), BAD);
    due("both", p.x.work(-1, -1), BAD);
    due("as it was", p.value() + p.x.worked() + p.x.stuck() + p.x.count(3), "51-90");
  }

  private static void value() {
    sentence("Byte i of the VALUE of the latest work(), TOLD; - 1: how many are kept; NONE: none such, no VALUE.");
    Program p = new Program();
    int[] places = {-1, 0, 1, -2, 200, MIN, MAX};
    for (int i : places) due("no latest work()", p.x.value(i), NONE);
    int sum = p.sum(p.number(8), p.number(9));
    int name = p.name(A);
    for (int i : places) due("none yet", p.x.value(i), NONE);
    p.x.work(sum, 3);
    due("how many", p.x.value(-1), 2);
    due("the first", p.x.value(0), '1');
    due("the last", p.x.value(1), '7');
    for (int i : new int[] {2, 3, 199, 200, MAX, -2, -9, MIN}) due("none such: " + i, p.x.value(i), NONE);
    p.x.work(name, 3);
    for (int i : places) due("STUCK: no VALUE", p.x.value(i), NONE);
    p.x.work(sum, 2);
    for (int i : places) due("SPENT: no VALUE", p.x.value(i), NONE);
    p.x.work(sum, 3);
    p.x.type(name);
    due("type() is another thing", p.value(), "17");
  }

  private static void worked() {
    sentence("STEPS of the latest work(); 0 before.");
    Program p = new Program();
    due("before", p.x.worked(), 0);
    int sum = p.sum(p.number(1), p.name(A));
    due("still", p.x.worked(), 0);
    p.x.work(sum, 301);
    due("behind BAD", p.x.worked(), 0);
    p.x.work(sum, 0);
    due("none", p.x.worked(), 0);
    p.x.work(sum, 2);
    due("SPENT", p.x.worked(), 2);
    p.x.work(sum, 3);
    due("STUCK", p.x.worked(), 3);
    p.x.work(0, 3);
    due("a VALUE", p.x.worked(), 1);
    p.x.work(9, 3);
    due("behind BAD", p.x.worked(), 1);
  }

  private static void stuck() {
    sentence("The NODE at which the latest work() was STUCK (the APPLY, FIELD, PICK, SUM, LESS, NAME), or that was due when it was SPENT; NONE: neither.");
    Program p = new Program();
    due("before", p.x.stuck(), NONE);
    int name = p.name(A);
    due("still", p.x.stuck(), NONE);
    p.x.work(name, 1);
    due("NODE 0, the NAME", p.x.stuck(), 0);
    p.x.work(7, 1);
    due("behind BAD", p.x.stuck(), 0);
    int one = p.number(1);
    p.x.work(one, 1);
    due("a VALUE", p.x.stuck(), NONE);
    p.x.work(one, 0);
    due("due", p.x.stuck(), one);
    p.x.work(one, 2);
    due("a VALUE again", p.x.stuck(), NONE);
    p.x.type(name);
    due("where() is another thing", p.x.stuck(), NONE);
    p.x.work(name, 1);
    p.x.field(p.record(), A, one);
    due("a FIELD more changes no work()", p.x.stuck(), 0);
  }

  private static void count() {
    sentence("0 NODES, 1 VARIABLES of the latest type() (0 before), 2 NODES that are no part, 3 the OUTCOME of the latest work() (NONE before). BAD.");
    Program p = new Program();
    due("before", p.x.count(0) + " " + p.x.count(1) + " " + p.x.count(2) + " " + p.x.count(3), "0 0 0 -9");
    for (int what : new int[] {-1, 4, MIN, MAX}) due("what " + what, p.x.count(what), BAD);
    int function = p.function(A, p.name(A));
    int record = p.record();
    due("three NODES", p.x.count(0) + " " + p.x.count(1) + " " + p.x.count(2) + " " + p.x.count(3), "3 0 2 -9");
    p.x.type(function);
    p.x.work(function, 1);
    due("typed and worked", p.x.count(0) + " " + p.x.count(1) + " " + p.x.count(2) + " " + p.x.count(3), "3 1 2 0");
    p.x.field(record, B, function);
    due("a FIELD", p.x.count(0) + " " + p.x.count(1) + " " + p.x.count(2) + " " + p.x.count(3), "3 0 1 0");
    p.x.type(0);
    p.x.work(0, 1);
    due("FAULT, STUCK", p.x.count(1) + " " + p.x.count(3), "0 1");
    p.x.work(0, 0);
    due("SPENT", p.x.count(3), 2);
    Program q = new Program();
    for (int n = 0; n < 120; n++) q.number(n);
    due("120", q.x.count(0) + " " + q.x.count(2), "120 120");
    q.x.node(0, 0, 0, 0, 0);
    due("still", q.x.count(0) + " " + q.x.count(2), "120 120");
  }

  private static long digestOf(PolarTypes x) {
    long h = 17;
    for (int n = 0; n < x.count(0); n++) for (int what = 0; what <= 15; what++) h = 31 * h + x.told(n, what);
    for (int v = 0; v < x.count(1); v++) for (int what = 0; what <= 2; what++) h = 31 * h + x.variable(v, what);
    return h;
  }

  private static void digest() {
    sentence("h = 17; then h = 31 h + v for each v: of each NODE told() 0 to 15; of the latest type() each VARIABLE's variable() 0 to 2.");
    due("of none", new PolarTypes().digest(), 17);
    for (int n : new int[] {0, MAX, MIN, -1}) {
      Program p = new Program();
      p.number(n);
      long h = 17;
      for (int v : new int[] {0, n, 0, -9, -9, -9, -9, -9, -9, -9, -9, -9, -9, -9, -9, -9}) h = 31 * h + v;
      due("a NUMBER " + n, p.x.digest(), h);
    }
    Program p = new Program();
    int six = p.record();
    for (int i = 0; i < 6; i++) p.x.field(six, 25 - i, p.function(i, p.name(i)));
    due("NODES", p.x.digest(), digestOf(p.x));
    p.x.type(six);
    due("VARIABLES", p.x.digest(), digestOf(p.x));
    int fault = p.apply(p.number(1), p.number(2));
    p.x.type(fault);
    due("behind FAULT", p.x.digest(), digestOf(p.x));
    Program q = new Program();
    for (int n = 0; n < 120; n++) q.x.node(n == 0 ? 2 : 3, n % 26, n - 1, 0, 0);
    due("119 FUNCTIONS: SPENT", q.x.type(119), SPENT);
    long h = digestOf(q.x);
    due("behind SPENT, wrapped", q.x.digest(), h);
    due("60 came", q.x.count(1), 60);
    due("work() is no part of it", q.x.work(119, 1), 0);
    due("still", q.x.digest(), h);
  }

  private static void manyCalls() {
    sentence("An object is used for at most 512 calls after it has been made;");
    PolarTypes x = new PolarTypes();
    x.node(2, 0, 0, 0, 0);
    x.node(3, 0, 0, 0, 0);
    for (int call = 2; call < 511; call++) {
      if (call % 2 == 0) x.type(call % 4 / 2);
      else x.work(1, call % 3);
    }
    due("the 512th", x.type(1), 1);
  }
}
