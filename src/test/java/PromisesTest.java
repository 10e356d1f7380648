/** Each promise of the document: ordinary calls, the edges that it names, wrong calls. The answers are written by hand. */
public final class PromisesTest extends Checks {
  public static void main(String[] args) {
    newObject();
    node();
    field();
    told();
    type();
    typeOfParts();
    schemes();
    levels();
    liftedUp();
    limitsOfTypes();
    mostTypes();
    deepCopies();
    deepLifts();
    deepNodes();
    where();
    steps();
    sign();
    variable();
    bound();
    work();
    value();
    worked();
    stuck();
    count();
    digest();
    end("PromisesTest");
  }

  private static void newObject() {
    promise("1 a new object");
    PolarTypes x = new PolarTypes();
    due("NODES", x.count(0), 0);
    due("VARIABLES", x.count(1), 0);
    due("no part", x.count(2), 0);
    due("OUTCOME", x.count(3), NONE);
    due("told", x.told(0, 0), BAD);
    due("field", x.field(0, 0, 0), BAD);
    due("type", x.type(0), BAD);
    due("where", x.where(), NONE);
    due("steps", x.steps(), 0);
    due("sign", x.sign(0), STATE);
    due("signs", x.sign(-1), STATE);
    due("variable", x.variable(0, 0), BAD);
    due("bound", x.bound(0, true, 0, 0), BAD);
    due("work", x.work(0, 0), BAD);
    due("value", x.value(0), NONE);
    due("value's length", x.value(-1), NONE);
    due("worked", x.worked(), 0);
    due("stuck", x.stuck(), NONE);
    due("digest", x.digest(), 17);
    due("BAD", PolarTypes.BAD, -1);
    due("FULL", PolarTypes.FULL, -2);
    due("STATE", PolarTypes.STATE, -4);
    due("SPENT", PolarTypes.SPENT, -6);
    due("FAULT", PolarTypes.FAULT, -7);
    due("NONE", PolarTypes.NONE, -9);
    PolarTypes y = new PolarTypes();
    x.node(0, 1, 0, 0, 0);
    due("another object", y.count(0), 0);
  }

  private static void node() {
    promise("2 node");
    PolarTypes x = new PolarTypes();
    due("KIND -1", x.node(-1, 0, 0, 0, 0), BAD);
    due("KIND 12", x.node(12, 0, 0, 0, 0), BAD);
    due("TRUTH 2", x.node(1, 2, 0, 0, 0), BAD);
    due("TRUTH -1", x.node(1, -1, 0, 0, 0), BAD);
    due("NAME -1", x.node(2, -1, 0, 0, 0), BAD);
    due("NAME 26", x.node(2, 26, 0, 0, 0), BAD);
    due("SUM of none", x.node(10, 0, 0, 1, 0), BAD);
    due("NUMBER", x.node(0, Integer.MIN_VALUE, -1, -1, -1), 0);
    due("TRUTH", x.node(1, 1, 99, 99, 99), 1);
    due("NAME", x.node(2, 25, 0, 0, 0), 2);
    due("RECORD", x.node(5, 77, -1, -1, -1), 3);
    for (int kind : new int[] {3, 6}) {
      due("letter -1 of " + kind, x.node(kind, -1, 0, 0, 0), BAD);
      due("letter 26 of " + kind, x.node(kind, 26, 0, 0, 0), BAD);
    }
    for (int kind : new int[] {7, 8}) {
      due("letter -1 of " + kind, x.node(kind, -1, 0, 1, 0), BAD);
      due("letter 26 of " + kind, x.node(kind, 26, 0, 1, 0), BAD);
    }
    for (int kind : new int[] {4, 7, 8, 10, 11}) {
      due("twice told by " + kind, x.node(kind, 0, 1, 1, 0), BAD);
      due("first of " + kind, x.node(kind, 0, 4, 1, 0), BAD);
      due("second of " + kind, x.node(kind, 0, 1, -1, 0), BAD);
    }
    due("PICK twice a", x.node(9, 0, 0, 1, 0), BAD);
    due("PICK twice b", x.node(9, 0, 0, 1, 1), BAD);
    due("PICK third", x.node(9, 0, 0, 1, 4), BAD);
    due("PICK", x.node(9, -5, 0, 1, 2), 4);
    due("a part already", x.node(3, 0, 1, 0, 0), BAD);
    due("a part already, second", x.node(10, 0, 3, 2, 0), BAD);
    due("FIELD", x.node(6, 0, 3, 0, 0), 5);
    due("APPLY, v and c not looked at", x.node(4, -77, 4, 5, -3), 6);
    due("FUNCTION", x.node(3, 25, 6, 0, 0), 7);
    for (int n = 8; n < 120; n++) due("NODE", x.node(0, n, 0, 0, 0), n);
    due("BAD ahead of FULL", x.node(3, 0, 6, 0, 0), BAD);
    due("the 121st", x.node(0, 1, 0, 0, 0), FULL);
    due("the 121st with a part", x.node(3, 0, 7, 0, 0), FULL);
    due("refused, no part", x.told(7, 3), NONE);
    due("NODES", x.count(0), 120);
  }

  private static void field() {
    promise("3 field");
    Program p = new Program();
    PolarTypes x = p.x;
    int outer = p.record();
    int inner = p.record();
    int one = p.number(1);
    due("the RECORD itself", x.field(outer, A, outer), BAD);
    due("no RECORD", x.field(3, A, one), BAD);
    due("no RECORD", x.field(-1, A, one), BAD);
    due("label -1", x.field(outer, -1, one), BAD);
    due("label 26", x.field(outer, 26, one), BAD);
    due("part -1", x.field(outer, A, -1), BAD);
    due("part 3", x.field(outer, A, 3), BAD);
    due("a NUMBER", x.field(one, A, inner), STATE);
    due("a later part", x.field(outer, B, inner), 1);
    due("the RECORD stands in it", x.field(inner, A, outer), BAD);
    due("a part already", x.field(outer, A, inner), BAD);
    due("the label", x.field(outer, B, one), STATE);
    due("another label", x.field(outer, A, one), 2);
    due("its label", x.told(outer, 11), A);
    due("its part", x.told(outer, 5), one);
    due("whose part", x.told(one, 3), outer);
    for (int i = 3; i <= 6; i++) due("more", x.field(outer, i, p.number(i)), i);
    int last = p.number(9);
    due("BAD ahead of FULL", x.field(outer, 26, last), BAD);
    due("STATE ahead of FULL", x.field(outer, 6, last), STATE);
    due("the 7th", x.field(outer, 7, last), FULL);
    due("a deep one stands in it", x.field(inner, C, p.get(A, p.get(B, outer))), BAD);
    Program q = new Program();
    PolarTypes y = q.x;
    int f = q.function(X, q.name(X));
    int r = q.record();
    due("type", y.type(f), 1);
    due("refused", y.field(r, A, r), BAD);
    due("the latest type() stands", q.signs(), ">'0'0");
    due("work", y.work(f, 9), 0);
    due("FIELD", y.field(r, A, f), 1);
    due("no latest type(): sign", y.sign(0), STATE);
    due("no latest type(): where", y.where(), NONE);
    due("no latest type(): steps", y.steps(), 0);
    due("no latest type(): VARIABLES", y.count(1), 0);
    due("no latest type(): variable", y.variable(0, 0), BAD);
    due("no latest type(): bound", y.bound(0, true, 0, -1), BAD);
    due("the latest work() stands", q.value(), "f");
    due("type again", q.typed(r), "1 at -9, 0 steps {a>'0'0}");
    int g = q.get(B, r);
    due("FAULT", y.type(g), FAULT);
    due("where", y.where(), g);
    due("FIELD more", y.field(r, B, q.number(2)), 2);
    due("no where", y.where(), NONE);
    due("no steps", y.steps(), 0);
    due("good now", y.type(g), 2);
  }

  private static void told() {
    promise("4 told");
    Program p = new Program();
    PolarTypes x = p.x;
    int minus = p.number(-9);
    int truth = p.truth(0);
    int name = p.name(Z);
    int pick = p.pick(truth, name, minus);
    int yes = p.truth(1);
    int record = p.record(C, pick, A, yes);
    int get = p.get(C, record);
    int let = p.let(D, p.number(4), get);
    int[][] due = {
        {0, -9, 0, pick, NONE, NONE, NONE}, {1, 0, 0, pick, NONE, NONE, NONE}, {2, Z, 0, pick, NONE, NONE, NONE},
        {9, NONE, 3, record, truth, name, minus}, {1, 1, 0, record, NONE, NONE, NONE}, {5, NONE, 2, get, pick, yes, NONE},
        {6, C, 1, let, record, NONE, NONE}, {0, 4, 0, let, NONE, NONE, NONE}, {7, D, 2, NONE, 7, get, NONE}};
    for (int n = 0; n < due.length; n++) {
      for (int what = 0; what < 7; what++) due("told(" + n + ", " + what + ")", x.told(n, what), due[n][what]);
      for (int what = 7; what < 10; what++) due("told(" + n + ", " + what + ")", x.told(n, what), NONE);
      if (n == record) continue;
      for (int what = 10; what < 16; what++) due("told(" + n + ", " + what + ")", x.told(n, what), NONE);
    }
    due("label 0", x.told(record, 10), C);
    due("label 1", x.told(record, 11), A);
    due("label 2", x.told(record, 12), NONE);
    due("NODE -1", x.told(-1, 0), BAD);
    due("NODE 9", x.told(9, 0), BAD);
    due("what -1", x.told(0, -1), BAD);
    due("what 16", x.told(0, 16), BAD);
    due("let", let, 8);
    int[] kinds = {3, 4, 8, 10, 11};
    int[] marks = {X, NONE, Y, NONE, NONE};
    for (int i = 0; i < kinds.length; i++) {
      int n = x.node(kinds[i], kinds[i] == 8 ? Y : X, p.number(1), p.number(2), 0);
      due("KIND", x.told(n, 0), kinds[i]);
      due("v", x.told(n, 1), marks[i]);
      due("parts", x.told(n, 2), kinds[i] == 3 ? 1 : 2);
    }
  }

  private static void type() {
    promise("5 type");
    Program p = new Program();
    PolarTypes x = p.x;
    due("BAD", x.type(-1), BAD);
    due("NUMBER", p.typed(p.number(4)), "0 at -9, 0 steps w");
    due("TRUTH", p.typed(p.truth(0)), "0 at -9, 0 steps t");
    due("a NAME alone", p.typed(p.name(A)), "-7 at 2, 0 steps ");
    due("BAD", x.type(3), BAD);
    due("BAD changes nothing", x.where(), 2);
    int f = p.function(A, 2);
    due("FUNCTION", p.typed(f), "1 at -9, 0 steps >'0'0");
    due("as if it were no part", p.typed(2), "-7 at 2, 0 steps ");
    // v0 a, v1 r: >'0'0 UNDER >w'1: w UNDER v0, then v0 UNDER v1: v1 comes ABOVE v0, then w UNDER v1.
    int apply = p.apply(f, p.number(7));
    due("APPLY", p.typed(apply), "2 at -9, 4 steps |'1w.");
    due("v0", p.variable(0), "0 1 1");
    due("v1", p.variable(1), "0 1 0");
    due("the nearest", p.typed(p.function(A, p.function(A, p.name(A)))), "2 at -9, 0 steps >'0>'1'1");
    due("not the one of another name", p.typed(p.function(A, p.function(B, p.name(A)))), "2 at -9, 0 steps >'0>'1'0");
    due("again", p.typed(f), "1 at -9, 0 steps >'0'0");
  }

  private static void typeOfParts() {
    promise("5 type of each KIND");
    Program p = new Program();
    due("empty RECORD", p.typed(p.record()), "0 at -9, 0 steps {}");
    due("RECORD", p.typed(p.record(B, p.number(1), A, p.record(Z, p.truth(0)))), "0 at -9, 0 steps {bwa{zt}}");
    due("FIELD", p.typed(p.get(A, p.record(B, p.number(1), A, p.truth(1)))), "1 at -9, 2 steps |'0t.");
    due("SUM", p.typed(p.sum(p.number(1), p.number(2))), "0 at -9, 2 steps w");
    due("LESS", p.typed(p.less(p.number(1), p.number(2))), "0 at -9, 2 steps t");
    due("PICK", p.typed(p.pick(p.truth(1), p.number(2), p.truth(0))), "1 at -9, 3 steps |'0wt.");
    Program q = new Program();
    int bad = q.sum(q.number(1), q.truth(1));
    due("SUM of a TRUTH", q.typed(bad), "-7 at 2, 2 steps ");
    due("its first part ahead of its second", q.typed(q.sum(q.truth(0), q.name(A))), "-7 at 5, 1 steps ");
    due("LESS of a RECORD", q.typed(q.less(q.record(), q.number(0))), "-7 at 8, 1 steps ");
    due("PICK by a NUMBER", q.typed(q.pick(q.number(1), q.name(A), q.name(A))), "-7 at 12, 1 steps ");
    due("no VARIABLE came", q.x.count(1), 0);
    due("APPLY of a NUMBER", q.typed(q.apply(q.number(1), q.number(2))), "-7 at 15, 1 steps ");
    due("its VARIABLE came", q.x.count(1), 1);
    due("FIELD of a FUNCTION", q.typed(q.get(A, q.function(A, q.name(A)))), "-7 at 18, 1 steps ");
    due("lacked", q.typed(q.get(C, q.record(A, q.number(1), B, q.number(2)))), "-7 at 22, 1 steps ");
    Program r = new Program();
    int f = r.function(X, r.sum(r.get(A, r.name(X)), r.get(B, r.name(X))));
    // x: v0; x.a: v1 UNDER w; x.b: v2 UNDER w.
    due("what goes in", r.typed(f), "3 at -9, 4 steps >&'0{a&'1w.}{b&'2w.}.w");
    due("x ABOVE", r.above(0, 1), "{b&'2w.}");
    int good = r.apply(f, r.record(B, r.number(1), C, r.truth(0), A, r.number(2)));
    due("more FIELDS than wanted", r.x.type(good), 4);
    Program s = new Program();
    int wrong = s.apply(s.function(X, s.sum(s.get(A, s.name(X)), s.get(B, s.name(X)))),
        s.record(A, s.number(1), B, s.truth(0)));
    due("a TRUTH in one", s.x.type(wrong), FAULT);
    due("where the APPLY asks", s.x.where(), wrong);
    due("its VARIABLES", s.x.count(1), 4);
    due("as far as it came: v1", s.variable(1), "0 1 1");
    due("as far as it came: v2", s.variable(2), "0 1 1");
    due("as far as it came: v3", s.variable(3), "0 0 0");
    Program t = new Program();
    // x v0, y v1, PICK's v2 behind its truth, v3 and v4 UNDER it.
    int fits = t.function(X, t.function(Y, t.pick(t.truth(1), t.get(A, t.name(X)), t.get(B, t.name(X)))));
    due("PICK in FUNCTIONS", t.typed(fits), "5 at -9, 5 steps >&'0{a&'3'2.}{b&'4'2.}.>'1'2");
  }

  private static void schemes() {
    promise("5 type of LET and REC");
    Program p = new Program();
    int id = p.function(X, p.name(X));
    int two = p.record(A, p.apply(p.name(F), p.number(1)), B, p.apply(p.name(F), p.truth(1)));
    int let = p.let(F, id, two);
    // v0 x (1); v1 anew, v2 r; v3 anew, v4 r.
    due("as many things as it is used", p.typed(let), "5 at -9, 8 steps {a|'2w.b|'4t.}");
    due("v0's LEVEL", p.variable(0), "1 0 0");
    due("v1", p.variable(1), "0 1 1");
    due("v1 ABOVE", p.above(1, 0), "'2");
    Program q = new Program();
    // f v0; v1 and v2 for what it gives; x v3, v4 r: both w and t go into v3 and come out of it.
    int one = q.apply(q.function(F, q.record(A, q.apply(q.name(F), q.number(1)), B, q.apply(q.name(F), q.truth(1)))),
        q.function(X, q.name(X)));
    due("a FUNCTION's is one thing", q.typed(one), "5 at -9, 15 steps |'4{a|'1wt.b|'2wt.}.");
    Program r = new Program();
    // What an outer FUNCTION binds is not MADE ANEW: its LEVEL is not above the SCHEME's.
    int inner = r.function(X, r.let(Y, r.record(A, r.name(X), B, r.function(Z, r.name(Z))), r.name(Y)));
    due("the outer stays", r.typed(inner), "3 at -9, 0 steps >'0{a'0b>'2'2}");
    Program s = new Program();
    int first = s.let(A, s.number(1), s.name(A));
    due("LET binds in its second part", s.typed(first), "0 at -9, 0 steps w");
    int own = s.let(A, s.name(A), s.number(1));
    due("not in its first", s.typed(own), "-7 at 3, 0 steps ");
    int rec = s.rec(A, s.name(A), s.name(A));
    // v0 e (1); e UNDER e: e comes ABOVE and nothing is BELOW; MADE ANEW: v1 (0), ABOVE it itself.
    due("REC binds in both", s.typed(rec), "2 at -9, 1 steps '1");
    due("v0", s.variable(0), "1 0 1");
    due("v1", s.variable(1), "0 0 1");
    due("v1 ABOVE", s.above(1, 0), "&'1'1.");
    Program t = new Program();
    int loop = t.rec(F, t.function(X, t.apply(t.name(F), t.name(X))), t.name(F));
    // v0 e (1), v1 x (1), v2 r (1); e UNDER >'1'2; >'1'2 UNDER e: then UNDER >'1'2: v1 UNDER v1, v2 UNDER v2.
    due("recursion", t.typed(loop), "6 at -9, 5 steps |'3>&'4'4.'5.");
    Program u = new Program();
    int nested = u.let(A, u.let(B, u.function(X, u.name(X)), u.name(B)), u.name(A));
    due("LETS in LETS", u.typed(nested), "3 at -9, 0 steps >'2'2");
    due("LEVEL 2", u.variable(0), "2 0 0");
    due("LEVEL 1", u.variable(1), "1 0 0");
    due("LEVEL 0", u.variable(2), "0 0 0");
  }

  private static void levels() {
    promise("5 type, LIFTED");
    Program p = new Program();
    // x: v0 (0). In LET (1): y: v1 (1); x y: r v2 (1): v0 UNDER >'1'2, whose LEVEL is above: LIFTED down to 0.
    int node = p.function(X, p.let(A, p.function(Y, p.apply(p.name(X), p.name(Y))), p.name(A)));
    // v3 (0): v1 LIFTED up: v3 behind ABOVE v1; v4 (0): v2 LIFTED down: v4 behind BELOW v2; v0 UNDER >'3'4.
    // The NAME a: >'1'2 MADE ANEW: v5 with ABOVE '3; v6 with BELOW '4.
    due("down", p.typed(node), "7 at -9, 2 steps >&'0>'3'4.>&'5'3.|'6'4.");
    due("v1", p.variable(1), "1 0 1");
    due("v1 ABOVE", p.above(1, 0), "'3");
    due("v2", p.variable(2), "1 1 0");
    due("v2 BELOW", p.below(2, 0), "'4");
    due("v3", p.variable(3), "0 0 0");
    due("v4", p.variable(4), "0 0 0");
    due("v0 ABOVE", p.above(0, 0), ">'3'4");
    Program q = new Program();
    // x: v0 (0); in LET (1): x {a: y} with y: v1 (1) a TRUTH below: RECORD in a FUNCTION's first: LIFTED up.
    int let = q.let(A, q.function(Y, q.apply(q.name(X), q.record(A, q.name(Y), B, q.number(1)))), q.name(A));
    int up = q.function(X, let);
    due("up", q.typed(up), "7 at -9, 2 steps >&'0>{a'3bw}'4.>&'5'3.|'6'4.");
    Program r = new Program();
    // PICK's v in LET (1): v UNDER the outer's r: what is lower takes what is above it LIFTED up.
    int a = r.let(A, r.function(Y, r.apply(r.name(X), r.pick(r.truth(1), r.name(Y), r.number(1)))), r.name(A));
    // v0 x; v1 y (1), v2 pick (1): '2 comes ABOVE v1, w BELOW v2; v3 r (1).
    // LIFTED: v4 of v2, ABOVE v2, with w BELOW; v5 of v3, BELOW v3. MADE ANEW: v6 of v1, v7 of v2, v8 of v3.
    due("bounds are LIFTED too", r.typed(r.function(X, a)), "9 at -9, 5 steps >&'0>|'4w.'5.>&'6&'7'4..|'8'5.");
    due("v2", r.variable(2), "1 1 1");
    due("v7", r.variable(7), "0 1 1");
    due("v7 BELOW", r.below(7, 0), "w");
    Program s = new Program();
    int low = s.function(Z, s.let(A, s.function(Y, s.apply(s.function(X, s.name(X)), s.name(Z))), s.name(A)));
    // z v0 (0); in the LET y v1 (1), x v2 (1), r v3 (1): >'2'2 UNDER >'0'3. v0 UNDER v2: v2's LEVEL is above v0's, so
    // v0 comes BELOW v2. v2 UNDER v3: v3 comes ABOVE v2, and v0 BELOW v3. MADE ANEW: v4 of v1, v5 of v3.
    due("a lower one comes BELOW", s.typed(low), "6 at -9, 4 steps >'0>'4|'5'0.");
    due("v0", s.variable(0), "0 0 0");
    due("v2", s.variable(2), "1 1 1");
    due("v3", s.variable(3), "1 1 0");
  }

  private static void liftedUp() {
    promise("5 type, LIFTED up");
    Program p = new Program();
    int function = p.function(X, p.apply(p.name(F), p.name(X)));
    int first = p.function(Y, p.apply(function, p.record(10, p.name(Y))));
    int node = p.function(F, p.let(A, first, p.name(A)));
    // f v0; in the LET y v1, x v2, f x v3: LIFTED down >'2'3 is >'4'5, v4 ABOVE v2, v5 BELOW v3. (2 steps)
    // v6: {k'1} UNDER v2 and so UNDER v4: it is not low enough, and LIFTED up is {k'7}, v7 ABOVE v1. (4 steps)
    // v3 UNDER v6: so v5 UNDER v6: it comes BELOW v6. (2 steps) MADE ANEW: v8 of v1, v9 of v6.
    due("up", p.typed(node), "10 at -9, 8 steps >&'0>|'4{k'7}.'5.>&'8'7.|'9'5.");
    due("v1", p.variable(1), "1 0 1");
    due("v2", p.variable(2), "1 1 1");
    due("v2 BELOW", p.below(2, 0), "{k'1}");
    due("v4", p.variable(4), "0 1 0");
    due("v4 BELOW", p.below(4, 0), "{k'7}");
    due("v5", p.variable(5), "0 0 0");
    due("v6", p.variable(6), "1 1 0");
    due("v7", p.variable(7), "0 0 0");
  }

  /** 10 RECORDS within one another, told or copied from a LET as 511 and a FUNCTION and its VARIABLE; and others. */
  private static int types(int others) {
    Program p = new Program();
    int[] more = new int[9];
    more[0] = p.record(A, p.name(X), B, p.name(X));
    for (int i = 1; i < 9; i++) more[i] = p.record(A, p.name(i - 1), B, p.name(i - 1));
    int last = p.name(8);
    for (int i = 8; i >= 0; i--) last = p.let(i, more[i], last);
    int first = p.function(X, last);
    int[] all = new int[others];
    for (int i = 0; i < others; i++) {
      all[i] = p.record();
      if (i > 0) p.x.field(all[(i - 1) / 6], (i - 1) % 6, all[i]);
    }
    return p.x.type(p.let(Z, first, p.let(Y, all[0], p.name(Z))));
  }

  private static void mostTypes() {
    promise("5 type, SPENT by TYPES");
    // 1 VARIABLE, 9 RECORDS, 1 FUNCTION; MADE ANEW 1 VARIABLE, 511 RECORDS, 1 FUNCTION: 524.
    due("600 TYPES", types(76), 2);
    due("601 TYPES", types(77), SPENT);
  }

  /** The NODES of a = x in {{.. x + 1, x ..}}, a FUNCTION; b = a within more RECORDS. */
  private static int deepLet(Program p, int inner, int outer, boolean lifts) {
    int x = p.name(X);
    for (int i = 0; i < inner; i++) x = p.record(A, x);
    int given = p.name(A);
    for (int i = 0; i < outer; i++) given = p.record(A, given);
    int in = p.let(A, p.function(X, x), lifts ? p.apply(p.name(Z), given) : given);
    return p.function(Z, p.let(B, in, p.name(B)));
  }

  private static void deepCopies() {
    promise("5 type, SPENT by copies");
    Program p = new Program();
    // The RECORDS of b, the FUNCTION, the RECORDS of a, the VARIABLE.
    due("MADE ANEW 60 deep", p.x.type(deepLet(p, 29, 29, false)), 4);
    Program q = new Program();
    due("MADE ANEW 61 deep", q.x.type(deepLet(q, 29, 30, false)), SPENT);
    due("the NAME", q.x.told(q.x.where(), 1), B);
    due("the VARIABLES ahead", q.x.count(1), 4);
    Program r = new Program();
    // One FUNCTION more around it. a's VARIABLE v2 goes down as v4, which comes BELOW it, then up as v5, and there
    // what is BELOW it is asked too, low as it is: one deeper. z, x, v2, v3 of the APPLY, v4, v5, v6, and v7 of b.
    due("LIFTED 60 deep", r.x.type(deepLet(r, 29, 27, true)), 8);
    due("v5 BELOW", r.below(5, 0), "'4");
    due("v2", r.variable(2), "1 1 1");
    Program s = new Program();
    due("LIFTED 61 deep", s.x.type(deepLet(s, 29, 28, true)), SPENT);
    due("the APPLY", s.x.told(s.x.where(), 0), 4);
    Program t = new Program();
    // RECORDS, FUNCTION, RECORDS, PICK's VARIABLE; and a WHOLE BELOW that.
    due("a WHOLE 60 deep", t.x.type(deepWhole(t, 28)), 6);
    Program u = new Program();
    due("a WHOLE 61 deep", u.x.type(deepWhole(u, 29)), SPENT);
  }

  private static int deepWhole(Program p, int inner) {
    int x = p.pick(p.truth(1), p.number(1), p.number(2));
    for (int i = 0; i < inner; i++) x = p.record(A, x);
    int given = p.name(A);
    for (int i = 0; i < 29; i++) given = p.record(A, given);
    return p.let(A, p.function(X, x), p.let(B, given, p.name(B)));
  }

  /** In a LET 28 RECORDS into a FUNCTION that takes 28 FIELDS: what is lower than another there is 58 deep. */
  private static int deepLift(Program p, boolean up, boolean deeper) {
    int fields = p.name(X);
    for (int i = 0; i < 28; i++) fields = p.get(A, fields);
    int function = p.function(X, up ? p.apply(p.name(Z), fields) : p.get(B, fields));
    // What a PICK gives is asked one deeper.
    if (deeper) function = p.pick(p.truth(1), function, p.function(Y, p.name(Y)));
    int record = up ? p.record(B, p.name(Y)) : p.name(Z);
    for (int i = 0; i < 28; i++) record = p.record(A, record);
    return p.function(Z, p.let(A, p.function(Y, p.apply(function, record)), p.name(A)));
  }

  private static void deepLifts() {
    promise("5 type, SPENT behind LIFTED");
    for (int i = 0; i < 2; i++) {
      String way = i == 0 ? "down" : "up";
      Program p = new Program();
      // FUNCTION UNDER FUNCTION 1, the RECORD UNDER x 2 and UNDER {a: ..} 3, .. UNDER the last one 58, 59, LIFTED 60.
      due(way + ", 60 deep", p.x.type(deepLift(p, i == 1, false)) > 0 ? 1 : 0, 1);
      Program q = new Program();
      due(way + ", 61 deep", q.x.type(deepLift(q, i == 1, true)), SPENT);
    }
  }

  private static int within(Program p, int kind, int place, int part) {
    switch (kind) {
      case 3: return p.function(A, part);
      case 4: return place == 0 ? p.apply(part, p.number(1)) : p.apply(p.function(A, p.number(1)), part);
      case 5: return p.record(A, part);
      case 6: return p.get(A, part);
      case 7: return place == 0 ? p.let(A, part, p.number(1)) : p.let(A, p.number(1), part);
      case 8: return place == 0 ? p.rec(A, part, p.name(A)) : p.rec(A, p.number(1), part);
      case 9:
        if (place == 0) return p.pick(part, p.number(1), p.number(1));
        return place == 1 ? p.pick(p.truth(1), part, p.number(1)) : p.pick(p.truth(0), p.number(1), part);
      case 10: return place == 0 ? p.sum(part, p.number(1)) : p.sum(p.number(1), part);
      default: return place == 0 ? p.less(part, p.number(1)) : p.less(p.number(1), part);
    }
  }

  /** A NAME that nothing binds, as deep as told: in FIELDS, and these in some NODES of a KIND. */
  private static int deepName(Program p, int kind, int place, int deep) {
    int part = p.name(Z);
    for (int i = 15; i < deep - 1; i++) part = p.get(A, part);
    for (int i = 0; i < 15; i++) part = within(p, kind, place, part);
    return part;
  }

  private static void deepNodes() {
    int[] places = {0, 0, 0, 1, 2, 1, 1, 2, 2, 3, 2, 2};
    for (int kind = 3; kind <= 11; kind++) {
      for (int place = 0; place < places[kind]; place++) {
        String call = "KIND " + kind + " at " + place;
        promise("5 type, 60 deep");
        Program p = new Program();
        due(call, p.x.type(deepName(p, kind, place, 60)), FAULT);
        Program q = new Program();
        due(call + " and one more", q.x.type(deepName(q, kind, place, 61)), SPENT);
        due(call + " where", q.x.where(), 0);
        promise("11 work, 60 within one another");
        // What stands in a FUNCTION is not worked with it, what a REC binds only by its NAME.
        if (kind == 3 || kind == 8 && place == 0) continue;
        Program r = new Program();
        due(call, r.x.work(deepName(r, kind, place, 60), 300), 1);
        Program s = new Program();
        due(call + " and one more", s.x.work(deepName(s, kind, place, 61), 300), 2);
        due(call + " stuck", s.x.stuck(), 0);
      }
    }
    promise("11 work, 60 within one another");
    for (int deep = 60; deep <= 61; deep++) {
      Program p = new Program();
      int part = p.name(Z);
      for (int i = 15; i < deep - 1; i++) part = p.get(A, part);
      for (int i = 0; i < 15; i++) part = p.apply(p.function(A, part), p.number(1));
      due("BODIES", p.x.work(part, 300), deep - 59);
      Program q = new Program();
      part = q.name(Z);
      for (int i = 20; i < deep - 1; i++) part = q.get(A, part);
      for (int i = 0; i < 10; i++) part = q.rec(A, part, q.name(A));
      due("what a REC binds, within its NAME", q.x.work(part, 300), deep - 59);
    }
  }

  private static void limitsOfTypes() {
    promise("5 type, SPENT");
    Program p = new Program();
    int deep = p.number(1);
    for (int i = 0; i < 59; i++) deep = p.function(A, deep);
    due("60 deep", p.x.type(deep), 59);
    deep = p.function(A, deep);
    due("61 deep", p.x.type(deep), SPENT);
    due("the NODE that was due", p.x.where(), 0);
    due("as far as it came", p.x.count(1), 60);
    due("no signs", p.x.sign(-1), STATE);
    due("no signs", p.x.sign(0), STATE);

    Program q = new Program();
    int in = q.name(7);
    int[] firsts = new int[8];
    firsts[0] = q.function(X, q.name(X));
    for (int i = 1; i < 8; i++) firsts[i] = q.record(A, q.name(i - 1), B, q.name(i - 1));
    for (int i = 7; i >= 0; i--) in = q.let(i, firsts[i], in);
    // 1 and 2 and 4 .. and 64 and at the last as many as there is room for.
    due("VARIABLES", q.x.type(in), SPENT);
    due("150 came", q.x.count(1), 150);
    due("at a NAME", q.x.told(q.x.where(), 0), 2);

    Program r = new Program();
    // The same VARIABLE in ever more RECORDS, each told or copied twice: 1 and 3 and 7 ..
    int[] more = new int[10];
    more[0] = r.record(A, r.name(X), B, r.name(X));
    for (int i = 1; i < 10; i++) more[i] = r.record(A, r.name(i - 1), B, r.name(i - 1));
    int last = r.name(9);
    for (int i = 9; i >= 0; i--) last = r.let(i, more[i], last);
    int first = r.function(X, last);
    due("not MADE ANEW", r.x.type(first), 1);
    due("400 signs of many", r.x.sign(-1), 400);
    int given = r.let(Z, first, r.name(Z));
    due("MADE ANEW: too many TYPES", r.x.type(given), SPENT);
    due("VARIABLES", r.x.count(1), 2);
    due("where", r.x.where(), given - 1);

    Program s = new Program();
    // {a: {a: ..}} UNDER {a: v}, v UNDER {a: v} ..: two deeper for each FIELD.
    int record = s.record();
    int part = s.name(X);
    for (int i = 0; i < 29; i++) part = s.get(A, part);
    for (int i = 0; i < 29; i++) record = s.record(A, record);
    int fits = s.apply(s.function(X, part), record);
    due("UNDER 60 deep", s.x.type(fits), 31);
    Program t = new Program();
    record = t.record();
    part = t.name(X);
    for (int i = 0; i < 30; i++) part = t.get(A, part);
    for (int i = 0; i < 30; i++) record = t.record(A, record);
    int deeper = t.apply(t.function(X, part), record);
    due("UNDER 61 deep", t.x.type(deeper), SPENT);
    due("where", t.x.where(), deeper);
  }

  private static void where() {
    promise("6 where");
    Program p = new Program();
    int name = p.name(A);
    int sum = p.sum(p.number(1), name);
    int function = p.function(B, sum);
    due("FAULT", p.x.type(function), FAULT);
    due("the NAME", p.x.where(), name);
    int whole = p.function(A, function);
    due("good", p.x.type(whole), 2);
    due("neither", p.x.where(), NONE);
    int apply = p.apply(whole, p.truth(1));
    due("FAULT", p.x.type(apply), FAULT);
    due("the APPLY", p.x.where(), apply);
    due("BAD", p.x.type(99), BAD);
    due("as it was", p.x.where(), apply);
    int rec = p.rec(C, p.function(D, p.sum(p.apply(p.name(C), p.name(D)), p.name(D))), p.apply(p.name(C), p.truth(0)));
    due("FAULT in a REC's second part", p.x.type(rec), FAULT);
    due("the APPLY there", p.x.where(), rec - 1);
    int self = p.rec(E, p.sum(p.get(A, p.name(E)), p.number(1)), p.number(1));
    due("FAULT behind a REC's first part", p.x.type(self), FAULT);
    due("the REC", p.x.where(), self);
    int pick = p.pick(p.record(), p.number(1), p.number(1));
    due("FAULT of a PICK", p.x.type(pick), FAULT);
    due("the PICK", p.x.where(), pick);
  }

  private static void steps() {
    promise("7 steps");
    Program p = new Program();
    int a = p.sum(p.number(1), p.number(2));
    due("before", p.x.steps(), 0);
    p.x.type(a);
    due("SUM", p.x.steps(), 2);
    due("BAD", p.x.type(-3), BAD);
    due("as it was", p.x.steps(), 2);
    p.x.work(a, 9);
    due("work is another thing", p.x.steps(), 2);
    int x = p.function(X, p.sum(p.name(X), p.name(X)));
    p.x.type(x);
    due("those asked before too", p.x.steps(), 2);
    due("asked once", p.x.variable(0, 2), 1);
    p.x.type(0);
    due("anew", p.x.steps(), 0);
    Program q = new Program();
    int body = q.apply(q.name(A), q.name(A));
    for (int i = 0; i < 6; i++) body = q.pick(q.truth(1), body, q.apply(q.name(A), q.name(A)));
    int given = q.function(B, q.name(B));
    for (int i = 0; i < 14; i++) given = q.pick(q.truth(1), given, q.function(B, q.name(B)));
    int apply = q.apply(q.function(A, body), given);
    due("SPENT", q.x.type(apply), SPENT);
    due("the one above 1500", q.x.steps(), 1501);
    due("where", q.x.where(), apply);
    Program r = new Program();
    int record = r.record();
    int part = r.name(X);
    for (int i = 0; i < 30; i++) part = r.get(A, part);
    for (int i = 0; i < 30; i++) record = r.record(A, record);
    due("SPENT", r.x.type(r.apply(r.function(X, part), record)), SPENT);
    // 30 of the FIELDS and, within that of the APPLY, 61: the one that is too deep is the last.
    due("the one too deep too", r.x.steps(), 91);
  }

  private static void sign() {
    promise("8 sign");
    Program p = new Program();
    int f = p.function(X, p.sum(p.name(X), p.get(B, p.record(B, p.name(X)))));
    due("before", p.x.sign(-1), STATE);
    p.x.type(f);
    due("signs", p.signs(), ">&'0w&'1w..w");
    due("how many", p.x.sign(-1), 12);
    due("-2", p.x.sign(-2), NONE);
    due("the last", p.x.sign(11), 'w');
    due("behind it", p.x.sign(12), NONE);
    due("far behind it", p.x.sign(Integer.MAX_VALUE), NONE);
    p.x.type(0);
    due("FAULT", p.x.sign(-1), STATE);
    p.x.type(f);
    due("again", p.x.sign(0), '>');
    p.x.bound(0, true, 0, 0);
    due("bound() is another thing", p.signs(), ">&'0w&'1w..w");
    Program q = new Program();
    // Told the same way within itself: its number alone. In the way in, the way out turns round.
    due("the ways", q.typed(q.function(A, q.apply(q.name(A), q.function(B, q.apply(q.name(B), q.name(A)))))),
        "4 at -9, 2 steps >&'0>>&'1>'0'2.'2'3.'3");
    Program r = new Program();
    int rec = r.rec(F, r.function(X, r.record(A, r.apply(r.name(F), r.name(X)))), r.name(F));
    // v3 e anew: BELOW it >'4{a'5}: v5 BELOW it that RECORD.
    due("within itself", r.typed(rec), "6 at -9, 5 steps |'3>&'4'4.{a|'5{a'5}.}.");
    Program s = new Program();
    int big = s.record();
    for (int i = 0; i < 6; i++) {
      int six = s.record();
      for (int j = 0; j < 6; j++) {
        int deep = s.record(A, s.number(1));
        s.x.field(six, j, deep);
      }
      s.x.field(big, i, six);
    }
    s.x.type(big);
    // {, 6 letters with {, 6 letters with {aw}, }, }: 2 + 6 (3 + 6 * 5).
    due("all are kept", s.x.sign(-1), 200);
    Program t = new Program();
    int two = t.name(A);
    int[] lets = {t.record(A, t.number(1), B, t.number(1)), t.record(A, t.name(A), B, t.name(A)),
        t.record(A, t.name(B), B, t.name(B)), t.record(A, t.name(C), B, t.name(C)), t.record(A, t.name(D), B, t.name(D)),
        t.record(A, t.name(E), B, t.name(E)), t.record(A, t.name(F), B, t.name(F))};
    int in = t.name(G);
    for (int i = 6; i >= 0; i--) in = t.let(i, lets[i], in);
    due("no VARIABLES", t.x.type(in), 0);
    due("400 are kept", t.x.sign(-1), 400);
    due("the first", t.x.sign(0), '{');
    due("the 7th within one another", t.x.sign(12), '{');
    due("its label", t.x.sign(13), 'a');
    due("a whole in it", t.x.sign(14), 'w');
    due("no 401st", t.x.sign(400), NONE);
    due("the 400th is", t.x.sign(399) > 0 ? 1 : 0, 1);
    due("free", t.x.told(two, 3), NONE);
  }

  private static void variable() {
    promise("9 variable");
    Program p = new Program();
    int f = p.function(X, p.pick(p.name(X), p.number(1), p.name(X)));
    due("before", p.x.variable(0, 0), BAD);
    p.x.type(f);
    // v0 x UNDER TRUTH; v1: BELOW w; x UNDER v1: v1 comes ABOVE x.
    due("v0", p.variable(0), "0 0 2");
    due("v1", p.variable(1), "0 1 0");
    due("v-1", p.x.variable(-1, 0), BAD);
    due("v2", p.x.variable(2, 0), BAD);
    due("what -1", p.x.variable(0, -1), BAD);
    due("what 3", p.x.variable(0, 3), BAD);
    int apply = p.apply(f, p.truth(0));
    // v2 r: v0's BELOW t: t UNDER TRUTH, t UNDER v1 ..
    due("APPLY", p.x.type(apply), 3);
    due("v0", p.variable(0), "0 1 2");
    due("v1", p.variable(1), "0 2 1");
    due("v2", p.variable(2), "0 2 0");
    int wrong = p.apply(p.function(Y, p.sum(p.number(1), p.apply(p.function(Z, p.name(Z)), p.truth(0)))), p.number(2));
    due("FAULT", p.x.type(wrong), FAULT);
    due("behind FAULT: y", p.variable(0), "0 0 0");
    // z: v1, r: v2: z got t, r got v... r UNDER w: w comes ABOVE r, then t UNDER w.
    due("behind FAULT: z", p.variable(1), "0 1 1");
    due("behind FAULT: r", p.variable(2), "0 1 1");
    due("not yet", p.x.variable(3, 0), BAD);
    due("LEVEL 1", p.x.type(p.let(A, p.function(B, p.name(B)), p.number(1))), 1);
    due("v0", p.variable(0), "1 0 0");
  }

  private static void bound() {
    promise("10 bound");
    Program p = new Program();
    due("before", p.x.bound(0, false, 0, -1), BAD);
    int f = p.function(X, p.apply(p.name(X), p.name(X)));
    p.x.type(f);
    due("ABOVE, the way in", p.above(0, 0), ">'0'1");
    due("how many", p.x.bound(0, true, 0, -1), 5);
    due("-2", p.x.bound(0, true, 0, -2), NONE);
    due("behind it", p.x.bound(0, true, 0, 5), NONE);
    due("no second", p.x.bound(0, true, 1, -1), NONE);
    due("place -1", p.x.bound(0, true, -1, -1), NONE);
    due("nothing BELOW", p.x.bound(0, false, 0, 0), NONE);
    due("v-1", p.x.bound(-1, true, 0, 0), BAD);
    due("v2", p.x.bound(2, true, 0, 0), BAD);
    Program q = new Program();
    int apply = q.apply(q.function(X, q.pick(q.truth(1), q.name(X), q.number(1))), q.function(Y, q.name(Y)));
    // v0 x, v1 pick, v2 y, v3 r.
    due("type", q.x.type(apply), 4);
    due("BELOW x", q.below(0, 0), ">'2'2");
    due("ABOVE x", q.above(0, 0), "&'1'3.");
    due("BELOW pick", q.below(1, 0), "w");
    due("BELOW pick, second", q.below(1, 1), ">'2'2");
    due("BELOW pick, third", q.x.bound(1, false, 2, -1), NONE);
    due("BELOW r", q.x.variable(3, 1), 2);
    due("BELOW r", q.below(3, 1), ">'2'2");
    Program s = new Program();
    // x v0 (0) named from a LET (1) into a PICK's v1 (1): v0 UNDER v1: it comes BELOW v1, with what is BELOW it.
    int let = s.let(A, s.pick(s.truth(1), s.name(X), s.number(1)), s.truth(0));
    s.x.type(s.apply(s.function(X, let), s.number(1)));
    due("a VARIABLE BELOW, the way out", s.below(1, 0), "|'0w.");
    due("w BELOW", s.below(1, 1), "w");
    Program r = new Program();
    int wrong = r.function(X, r.sum(r.pick(r.truth(0), r.name(X), r.truth(1)), r.number(1)));
    due("FAULT", r.x.type(wrong), FAULT);
    due("behind FAULT: ABOVE x", r.above(0, 0), "&'1w.");
    due("behind FAULT: ABOVE pick", r.above(1, 0), "w");
    due("behind FAULT: BELOW pick", r.below(1, 0), "t");
    due("no more ABOVE x", r.x.bound(0, true, 1, -1), NONE);
  }

  private static void work() {
    promise("11 work");
    Program p = new Program();
    int one = p.number(1);
    due("NODE", p.x.work(1, 9), BAD);
    due("NODE", p.x.work(-1, 9), BAD);
    due("n", p.x.work(one, -1), BAD);
    due("n", p.x.work(one, 301), BAD);
    due("BAD changes nothing", p.x.count(3), NONE);
    due("NUMBER", p.worked(one, 1), "0 at -9, 1 steps 1");
    due("300", p.worked(one, 300), "0 at -9, 1 steps 1");
    due("none", p.worked(one, 0), "2 at 0, 0 steps ");
    due("SUM wraps", p.worked(p.sum(p.number(Integer.MIN_VALUE), p.number(-1)), 9), "0 at -9, 3 steps 2147483647");
    due("LESS", p.worked(p.less(p.number(-5), p.number(-4)), 9), "0 at -9, 3 steps y");
    due("LESS of the same", p.worked(p.less(p.number(4), p.number(4)), 9), "0 at -9, 3 steps n");
    due("far apart", p.worked(p.less(p.number(Integer.MIN_VALUE), p.number(Integer.MAX_VALUE)), 9), "0 at -9, 3 steps y");
    due("PICK works one", p.worked(p.pick(p.truth(1), p.number(5), p.name(A)), 9), "0 at -9, 3 steps 5");
    due("PICK the other", p.worked(p.pick(p.truth(0), p.name(A), p.number(6)), 9), "0 at -9, 3 steps 6");
    Program q = new Program();
    int outer = q.let(X, q.number(1), q.let(F, q.function(Y, q.sum(q.name(X), q.name(Y))),
        q.let(X, q.number(50), q.apply(q.name(F), q.number(3)))));
    due("what a FUNCTION sees", q.worked(outer, 99), "0 at -9, 12 steps 4");
    due("the first is worked though it is not named", q.worked(q.let(A, q.name(B), q.number(1)), 9), "1 at 12, 2 steps ");
    int rec = q.rec(A, q.name(B), q.number(1));
    due("a REC's first is not", q.worked(rec, 9), "0 at -9, 2 steps 1");
    Program r = new Program();
    // f n = n < 1 ? 0 : n + f (n + -1)
    int f = r.function(X, r.pick(r.less(r.name(X), r.number(1)), r.number(0),
        r.sum(r.name(X), r.apply(r.name(F), r.sum(r.name(X), r.number(-1))))));
    int sum = r.rec(F, f, r.apply(r.name(F), r.number(4)));
    due("recursion", r.worked(sum, 300), "0 at -9, 58 steps 10");
    Program s = new Program();
    int each = s.rec(A, s.record(B, s.number(7)), s.sum(s.get(B, s.name(A)), s.get(B, s.name(A))));
    due("worked each time that it is named", s.worked(each, 99), "0 at -9, 10 steps 14");
    int self = s.rec(A, s.name(A), s.name(A));
    due("a REC of itself", s.worked(self, 300), "2 at " + (self - 2) + ", 60 steps ");
    Program t = new Program();
    int deep = t.number(8);
    for (int i = 0; i < 59; i++) deep = t.let(A, t.number(1), deep);
    due("60 within one another", t.worked(deep, 300), "0 at -9, 119 steps 8");
    Program u = new Program();
    deep = u.name(Z);
    for (int i = 0; i < 60; i++) deep = u.get(A, deep);
    due("61 within one another", u.worked(deep, 300), "2 at 0, 60 steps ");
    due("60 within one another", u.worked(deep - 1, 300), "1 at 0, 60 steps ");
  }

  private static void value() {
    promise("12 value");
    Program p = new Program();
    int record = p.record(C, p.number(-12), A, p.truth(0), B, p.function(X, p.name(X)), D, p.record());
    due("before", p.x.value(-1), NONE);
    p.x.work(record, 99);
    due("told", p.value(), "{c-12anbfd{}}");
    due("how many", p.x.value(-1), 13);
    due("behind it", p.x.value(13), NONE);
    due("-2", p.x.value(-2), NONE);
    p.x.work(record, 2);
    due("SPENT", p.x.value(-1), NONE);
    p.x.work(p.get(Z, record), 20);
    due("STUCK", p.x.value(0), NONE);
    due("BAD", p.x.work(-1, 0), BAD);
    p.x.work(0, 2);
    due("anew", p.value(), "-12");
    due("BAD", p.x.work(0, 301), BAD);
    due("as it was", p.value(), "-12");
    for (int n : new int[] {0, 7, 10, 100, -1, 1000000000, 2147483647, Integer.MIN_VALUE, 305070}) {
      p.x.work(p.number(n), 1);
      due("figures", p.value(), Integer.toString(n));
    }
    Program q = new Program();
    int in = q.name(G);
    int[] lets = new int[7];
    lets[0] = q.record(A, q.truth(1), B, q.truth(0));
    for (int i = 1; i < 7; i++) lets[i] = q.record(A, q.name(i - 1), B, q.name(i - 1));
    for (int i = 6; i >= 0; i--) in = q.let(i, lets[i], in);
    due("work", q.x.work(in, 99), 0);
    due("200 are kept", q.x.value(-1), 200);
    due("the last", q.x.value(199) > 0 ? 1 : 0, 1);
    due("no 201st", q.x.value(200), NONE);
    due("its begin", q.value().substring(0, 20), "{a{a{a{a{a{a{aybn}b{");
    Program r = new Program();
    int x = r.name(X);
    for (int i = 0; i < 40; i++) x = r.record(A, x);
    int f = r.function(X, x);
    int thrice = r.apply(r.name(F), r.apply(r.name(F), r.apply(r.name(F), r.number(1))));
    due("deep RECORDS", r.x.work(r.let(F, f, thrice), 300), 0);
    due("200 of them", r.x.value(-1), 200);
    due("the 100th", r.x.value(198), '{');
    due("its label", r.x.value(199), 'a');
    r.x.work(0, 9);
    due("none", r.x.value(-1), NONE);
  }

  private static void worked() {
    promise("13 worked");
    Program p = new Program();
    int sum = p.sum(p.number(1), p.sum(p.number(2), p.number(3)));
    due("before", p.x.worked(), 0);
    p.x.work(sum, 300);
    due("NODES begun", p.x.worked(), 5);
    p.x.work(sum, 5);
    due("just enough", p.x.count(3), 0);
    p.x.work(sum, 4);
    due("SPENT", p.x.count(3), 2);
    due("no more than told", p.x.worked(), 4);
    due("BAD", p.x.work(sum, 999), BAD);
    due("as it was", p.x.worked(), 4);
    p.x.work(p.sum(p.truth(1), p.number(2)), 9);
    due("STUCK behind both parts", p.x.worked(), 3);
    p.x.type(sum);
    due("type is another thing", p.x.worked(), 3);
    p.x.work(0, 9);
    due("anew", p.x.worked(), 1);
  }

  private static void stuck() {
    promise("14 stuck");
    Program p = new Program();
    due("before", p.x.stuck(), NONE);
    int name = p.name(A);
    int sum = p.sum(name, p.number(1));
    due("a NAME that is not bound", p.worked(sum, 9), "1 at " + name + ", 2 steps ");
    int bad = p.sum(p.truth(1), p.number(1));
    due("no whole", p.worked(bad, 9), "1 at " + bad + ", 3 steps ");
    bad = p.sum(p.number(1), p.record());
    due("no whole, second", p.worked(bad, 9), "1 at " + bad + ", 3 steps ");
    bad = p.less(p.function(A, p.number(1)), p.number(1));
    due("no whole for LESS", p.worked(bad, 9), "1 at " + bad + ", 3 steps ");
    bad = p.less(p.number(1), p.truth(0));
    due("no whole for LESS, second", p.worked(bad, 9), "1 at " + bad + ", 3 steps ");
    bad = p.pick(p.number(1), p.number(1), p.number(2));
    due("no truth", p.worked(bad, 9), "1 at " + bad + ", 2 steps ");
    bad = p.get(A, p.number(1));
    due("no record", p.worked(bad, 9), "1 at " + bad + ", 2 steps ");
    bad = p.get(A, p.record(B, p.number(1)));
    due("no such FIELD", p.worked(bad, 9), "1 at " + bad + ", 3 steps ");
    bad = p.apply(p.truth(1), p.number(1));
    due("no function", p.worked(bad, 9), "1 at " + bad + ", 3 steps ");
    int inner = p.name(B);
    bad = p.apply(p.number(1), inner);
    due("both parts first", p.worked(bad, 9), "1 at " + inner + ", 3 steps ");
    int outer = p.function(C, p.apply(p.name(C), p.name(C)));
    due("a VALUE", p.worked(outer, 9), "0 at -9, 1 steps f");
    int apply = p.apply(outer, p.number(5));
    due("in the BODY", p.worked(apply, 9), "1 at " + (outer - 1) + ", 6 steps ");
    due("as a whole program", p.worked(outer - 1, 9), "1 at " + (outer - 3) + ", 2 steps ");
    due("SPENT", p.worked(apply, 2), "2 at " + (apply - 1) + ", 2 steps ");
    due("BAD", p.x.work(0, -1), BAD);
    due("as it was", p.x.stuck(), apply - 1);
    // A NAME sees what stood where its FUNCTION was made alone.
    int f = p.let(D, p.function(E, p.name(F)), p.let(F, p.number(1), p.apply(p.name(D), p.number(2))));
    due("not where it is applied", p.x.work(f, 99), 1);
    due("that NAME", p.x.told(p.x.stuck(), 1), F);
  }

  private static void count() {
    promise("15 count");
    Program p = new Program();
    int f = p.function(A, p.name(A));
    int n = p.number(1);
    due("NODES", p.x.count(0), 3);
    due("no part", p.x.count(2), 2);
    due("VARIABLES before", p.x.count(1), 0);
    p.x.type(f);
    due("VARIABLES", p.x.count(1), 1);
    int apply = p.apply(f, n);
    due("no part now", p.x.count(2), 1);
    due("a NODE more changes no type()", p.x.count(1), 1);
    p.x.type(0);
    due("FAULT", p.x.count(1), 0);
    p.x.type(apply);
    due("VARIABLES", p.x.count(1), 2);
    due("OUTCOME before", p.x.count(3), NONE);
    p.x.work(apply, 9);
    due("a VALUE", p.x.count(3), 0);
    p.x.work(0, 9);
    due("STUCK", p.x.count(3), 1);
    p.x.work(0, 0);
    due("SPENT", p.x.count(3), 2);
    due("-1", p.x.count(-1), BAD);
    due("4", p.x.count(4), BAD);
  }

  private static void digest() {
    promise("16 digest");
    Program p = new Program();
    int one = p.number(-3);
    int record = p.record(Z, one);
    int f = p.function(B, p.name(B));
    int apply = p.apply(f, record);
    due("NODES alone", p.x.digest(), digestOf(p.x));
    long before = p.x.digest();
    p.x.type(apply);
    due("VARIABLES", p.x.digest(), digestOf(p.x));
    due("another", p.x.digest() == before ? 1 : 0, 0);
    p.x.work(apply, 9);
    due("work is another thing", p.x.digest(), digestOf(p.x));
    int extra = p.number(0);
    due("a NODE more", p.x.digest(), digestOf(p.x));
    p.x.field(record, A, extra);
    due("no VARIABLES any more", p.x.digest(), digestOf(p.x));
    PolarTypes y = new PolarTypes();
    y.node(0, 5, 0, 0, 0);
    long h = 17;
    int[] due = {0, 5, 0, -9, -9, -9, -9, -9, -9, -9, -9, -9, -9, -9, -9, -9};
    for (int d : due) h = 31 * h + d;
    due("one NODE", y.digest(), h);
    PolarTypes z = new PolarTypes();
    z.node(2, 0, 0, 0, 0);
    z.node(3, 0, 0, 0, 0);
    z.type(1);
    h = 17;
    int[] name = {2, 0, 0, 1, -9, -9, -9, -9, -9, -9, -9, -9, -9, -9, -9, -9};
    int[] function = {3, 0, 1, -9, 0, -9, -9, -9, -9, -9, -9, -9, -9, -9, -9, -9};
    for (int d : name) h = 31 * h + d;
    for (int d : function) h = 31 * h + d;
    for (int d : new int[] {0, 0, 0}) h = 31 * h + d;
    due("a VARIABLE", z.digest(), h);
  }

  private static long digestOf(PolarTypes x) {
    long h = 17;
    for (int n = 0; n < x.count(0); n++) for (int what = 0; what < 16; what++) h = 31 * h + x.told(n, what);
    for (int v = 0; v < x.count(1); v++) for (int what = 0; what < 3; what++) h = 31 * h + x.variable(v, what);
    return h;
  }
}
