/**
 * Each sentence of the document that names an edge of the TYPES and of what is asked of them: '2 TYPES', promises 5
 * to 10. The answers are written by hand; for TOLD and the limits there are EdgesOfTellingTest, EdgesOfLimitsTest.
 */
public final class EdgesOfTypesTest extends Checks {
  private static final int MIN = Integer.MIN_VALUE, MAX = Integer.MAX_VALUE;

  public static void main(String[] args) {
    nearestBinder();
    boundThroughEachKind();
    boundByNone();
    partsInOrder();
    greatestLevel();
    alike();
    askedBefore();
    madeAnewAboveItsLevel();
    goodAndElseFault();
    lackedLabel();
    comesAbove();
    comesBelow();
    betweenLevels();
    oneTimeOfAsking();
    liftedBounds();
    madeAnewBounds();
    wholeProgram();
    latest();
    where();
    steps();
    sign();
    variable();
    bound();
    end("EdgesOfTypesTest");
  }

  private static void nearestBinder() {
    sentence("What binds a NAME is the nearest FUNCTION x in whose BODY it stands, LET x in whose second part, REC x in one of whose parts it stands.");
    Program p = new Program();
    due("two FUNCTIONS", p.typed(p.function(A, p.function(A, p.name(A)))), "2 at -9, 0 steps >'0>'1'1");
    due("another's", p.typed(p.function(A, p.function(B, p.name(A)))), "2 at -9, 0 steps >'0>'1'0");
    due("two LETS", p.typed(p.let(A, p.number(1), p.let(A, p.truth(1), p.name(A)))), "0 at -9, 0 steps t");
    int inner = p.let(A, p.truth(1), p.name(A));
    due("beside a LET", p.typed(p.let(A, p.number(1), p.record(A, inner, B, p.name(A)))), "0 at -9, 0 steps {atbw}");
    due("a LET's first part", p.typed(p.function(A, p.let(A, p.name(A), p.name(A)))), "1 at -9, 0 steps >'0'0");
    due("a REC's first part", p.typed(p.rec(A, p.name(A), p.number(1))), "1 at -9, 1 steps w");
    // v0 e (1), w BELOW it; v1 MADE ANEW.
    due("a REC's second part", p.typed(p.rec(A, p.number(1), p.name(A))), "2 at -9, 1 steps |'1w.");
    due("a REC in a FUNCTION", p.typed(p.function(A, p.rec(A, p.number(1), p.name(A)))), "3 at -9, 1 steps >'0|'2w.");
    // v0 e (1), v1 a (1); v2 e anew, v3 a anew.
    int rec = p.rec(A, p.function(A, p.name(A)), p.name(A));
    due("a FUNCTION in a REC", p.typed(rec), "4 at -9, 1 steps |'2>'3'3.");
    // v0 a, v1 e (1); a UNDER e: v0 comes BELOW v1; v2 e anew, BELOW it v0.
    due("another's REC", p.typed(p.function(A, p.rec(B, p.name(A), p.name(B)))), "3 at -9, 1 steps >'0|'2'0.");
  }

  /** FUNCTION a of a NODE of a KIND with the NAME a at a place. */
  private static void boundThroughEachKind() {
    int[] places = {0, 0, 0, 1, 2, 1, 1, 2, 2, 3, 2, 2};
    for (int kind = 3; kind < 12; kind++) {
      for (int place = 0; place < places[kind]; place++) {
        Program p = new Program();
        int name = p.name(A);
        int one = kind == 9 ? p.truth(1) : kind == 4 ? p.function(C, p.number(1)) : p.number(1);
        int two = p.number(2);
        int three = p.number(3);
        int node = p.x.node(kind, B, place == 0 ? name : one, place == 1 ? name : two, place == 2 ? name : three);
        if (kind == 5) p.x.field(node, B, name);
        due("KIND " + kind + " at " + place, p.x.type(p.function(A, node)) > 0 ? 1 : 0, 1);
        due("alone", p.x.type(node), FAULT);
        due("where", p.x.where(), name);
      }
    }
  }

  private static void boundByNone() {
    sentence("bound by none: FAULT.");
    Program p = new Program();
    int name = p.name(A);
    due("alone", p.typed(name), "-7 at " + name + ", 0 steps ");
    due("a FIELD binds nothing", p.typed(p.get(A, name)), "-7 at " + name + ", 0 steps ");
    name = p.name(A);
    due("a label binds nothing", p.typed(p.record(A, p.number(1), B, name)), "-7 at " + name + ", 0 steps ");
    name = p.name(A);
    due("not in a LET's first part", p.typed(p.let(A, name, p.number(1))), "-7 at " + name + ", 0 steps ");
    name = p.name(A);
    int sum = p.sum(p.let(A, p.number(1), p.name(A)), name);
    due("not beside a LET", p.typed(sum), "-7 at " + name + ", 1 steps ");
    name = p.name(A);
    due("not beside a FUNCTION", p.typed(p.apply(p.function(A, p.name(A)), name)), "-7 at " + name + ", 0 steps ");
    name = p.name(A);
    due("not beside a REC", p.typed(p.record(A, p.rec(A, p.number(1), p.name(A)), B, name)), "-7 at " + name + ", 1 steps ");
    name = p.name(B);
    due("another letter", p.typed(p.function(A, p.let(C, p.number(1), p.rec(Z, p.number(2), name)))),
        "-7 at " + name + ", 1 steps ");
    due("its VARIABLES came", p.x.count(1), 2);
  }

  /** A NODE of a KIND whose part at a place no FUNCTION binds: what it answers, and what came ahead of it. */
  private static void partsInOrder() {
    String[] words = {"APPLY: both parts, then a new VARIABLE r (l);", "RECORD: its FIELDS: RECORD of these.",
        "FIELD x: the part, then a new VARIABLE v (l);", "LET: the first part at l + 1: x is SCHEME l with that; the second part; that.",
        "REC: a new VARIABLE e (l + 1); the first part at l + 1, x being e; its TYPE UNDER e; x is SCHEME l with e; the second part; that.",
        "PICK: the first part; it UNDER TRUTH; a new VARIABLE r (l); the second part; it UNDER r; the third; it UNDER r; r.",
        "SUM, LESS: the first part; it UNDER WHOLE; the second; it UNDER WHOLE; WHOLE, TRUTH.",
        "FUNCTION: a new VARIABLE (LEVEL l) for x, then the BODY: FUNCTION OF these."};
    int[][] kinds = {{4}, {5}, {6}, {7}, {8}, {9}, {10, 11}, {3}};
    // VARIABLES and STEPS ahead of the first, second, third part.
    String[][] ahead = {{"0 0", "0 0"}, {"0 0", "0 0"}, {"0 0"}, {"0 0", "0 0"}, {"1 0", "1 1"}, {"0 0", "1 1", "1 2"},
        {"0 0", "0 1"}, {"1 0"}};
    for (int i = 0; i < words.length; i++) {
      sentence(words[i]);
      for (int kind : kinds[i]) {
        for (int place = 0; place < ahead[i].length; place++) {
          Program p = new Program();
          int[] parts = {kind == 9 ? p.truth(1) : p.number(1), p.number(2), p.number(3)};
          parts[place] = p.name(A);
          int node = p.x.node(kind, B, parts[0], parts[1], parts[2]);
          if (kind == 5) for (int j = 0; j < 2; j++) p.x.field(node, j, parts[j]);
          due("KIND " + kind + " at " + place, p.x.type(node), FAULT);
          due("VARIABLES and STEPS ahead", p.x.count(1) + " " + p.x.steps(), ahead[i][place]);
        }
      }
    }
  }

  private static void greatestLevel() {
    sentence("LEVEL of another TYPE: the greatest of its parts' (0 without).");
    // z v0 (0); in the LET y v1 (1), r v2 (1): v0 UNDER FUNCTION OF the RECORD TO '2, and that LIFTED down: the RECORD
    // is above LEVEL 0 by y alone: v3 for y, v4 for r. MADE ANEW v5 of y, v6 of r.
    for (int i = 0; i < 2; i++) {
      Program p = new Program();
      int record = i == 0 ? p.record(A, p.name(Y), B, p.name(Z)) : p.record(A, p.name(Z), B, p.name(Y));
      int node = p.function(Z, p.let(A, p.function(Y, p.apply(p.name(Z), record)), p.name(A)));
      due("RECORD", p.typed(node), "7 at -9, 2 steps >&'0>{a" + (i == 0 ? "'3b'0" : "'0b'3") + "}'4.>&'5'3.|'6'4.");
    }
    Program q = new Program();
    // FUNCTION OF w TO r (1): by its second part. v2 for r.
    int second = q.function(Z, q.let(A, q.apply(q.name(Z), q.number(5)), q.name(A)));
    due("FUNCTION, by its second", q.typed(second), "4 at -9, 2 steps >&'0>w'2.|'3'2.");
    // FUNCTION OF y (1) TO w: by its first part. v3 for y, v4 for r.
    int first = q.function(Z, q.let(A, q.apply(q.name(Z), q.function(Y, q.number(5))), q.name(A)));
    due("FUNCTION, by its first", q.typed(first), "6 at -9, 2 steps >&'0>>'3w'4.|'5'4.");
    due("empty RECORD", q.typed(q.function(Z, q.let(A, q.apply(q.name(Z), q.record()), q.name(A)))),
        "4 at -9, 2 steps >&'0>{}'2.|'3'2.");
  }

  private static void alike() {
    sentence("TYPES are alike only if they are the same one, or WHOLE, or TRUTH (these are one each).");
    Program p = new Program();
    due("WHOLE", p.typed(p.function(X, p.sum(p.name(X), p.name(X)))), "1 at -9, 2 steps >&'0w.w");
    due("comes once", p.variable(0), "0 0 1");
    // x UNDER t 1; x UNDER t 2, 1 UNDER v2 3, 2 UNDER v2 4; v2 UNDER v1 5, w UNDER v1 6; 3 UNDER v1 7.
    int pick = p.pick(p.name(X), p.pick(p.name(X), p.number(1), p.number(2)), p.number(3));
    due("TRUTH", p.typed(p.function(X, pick)), "3 at -9, 7 steps >&'0t.|'1w.");
    due("comes once", p.variable(0), "0 0 1");
    due("two RECORDS", p.typed(p.pick(p.truth(1), p.record(), p.record())), "1 at -9, 3 steps |'0{}{}.");
    due("two FUNCTIONS", p.typed(p.pick(p.truth(1), p.function(X, p.name(X)), p.function(X, p.name(X)))),
        "3 at -9, 3 steps |'0>'1'1>'2'2.");
    // x v0; each FIELD is asked by a RECORD of its own.
    int record = p.record(A, p.get(A, p.name(X)), B, p.get(A, p.name(X)));
    due("two FIELDS", p.typed(p.function(X, record)), "3 at -9, 2 steps >&'0{a'1}{a'2}.{a'1b'2}");
    int same = p.let(A, p.record(), p.pick(p.truth(1), p.name(A), p.name(A)));
    due("the same RECORD", p.typed(same), "1 at -9, 3 steps |'0{}.");
  }

  private static void askedBefore() {
    sentence("a UNDER b: nothing, if it was asked before (the same two);");
    Program p = new Program();
    int twice = p.pick(p.truth(1), p.name(X), p.name(X));
    due("x UNDER r", p.typed(p.function(X, twice)), "2 at -9, 3 steps >&'0'1.'1");
    due("comes once", p.variable(0), "0 0 1");
    Program q = new Program();
    // e v0, x v1, r v2, f x v3. t 1; x UNDER r 2; e UNDER that of x TO '3 3; v3 UNDER r 4; the FUNCTION UNDER e 5, UNDER
    // what is ABOVE e 6: x UNDER x 7, r UNDER v3 8: that the other way round was asked is another thing.
    int f = q.function(X, q.pick(q.truth(1), q.name(X), q.apply(q.name(F), q.name(X))));
    due("r UNDER v3, v3 UNDER r", q.typed(q.rec(F, f, q.name(F))), "8 at -9, 8 steps |'4>&'5&'6&'7'6..'5.'6.");
    due("x", q.variable(1), "1 0 2");
    due("r", q.variable(2), "1 0 1");
    due("v3", q.variable(3), "1 0 1");
    // What was asked in one type() was not in the next.
    due("again", q.typed(q.x.count(0) - 1), "8 at -9, 8 steps |'4>&'5&'6&'7'6..'5.'6.");
  }

  private static void madeAnewAboveItsLevel() {
    sentence("a SCHEME: its TYPE MADE ANEW (above its LEVEL, at l);");
    Program p = new Program();
    int uses = p.let(A, p.name(X), p.record(A, p.name(A), B, p.name(A)));
    due("not above: the same", p.typed(p.function(X, uses)), "1 at -9, 0 steps >'0{a'0b'0}");
    // x v0 (1), SCHEME a of LEVEL 1; b MADE ANEW at 0.
    int inner = p.function(X, p.let(A, p.name(X), p.name(A)));
    due("LEVEL 1 in a SCHEME of LEVEL 1", p.typed(p.let(B, inner, p.name(B))), "2 at -9, 0 steps >'1'1");
    // x v0 (0), y v1 (1): y alone is new.
    due("above in part", p.typed(p.function(X, p.let(A, p.function(Y, p.name(X)), p.name(A)))), "3 at -9, 0 steps >'0>'2'0");
    int twice = p.let(A, p.function(Y, p.name(Y)), p.let(B, p.name(A), p.name(B)));
    due("at l", p.typed(twice), "3 at -9, 0 steps >'2'2");
    due("a", p.x.variable(0, 0), 1);
    due("a NAMED in b's first part", p.x.variable(1, 0), 1);
    due("b NAMED at the top", p.x.variable(2, 0), 0);
    // e (1); NAMED in its own first part it is the same; behind it, new.
    due("in a REC", p.typed(p.rec(A, p.record(A, p.name(A)), p.number(1))), "1 at -9, 1 steps w");
    due("e", p.variable(0), "1 1 0");
    due("BELOW e", p.below(0, 0), "{a|'0{a'0}.}");
  }

  /** Of a sort: a WHOLE, a TRUTH, a FUNCTION, a RECORD with a. */
  private static int ofSort(Program p, int sort) {
    switch (sort) {
      case 0: return p.number(1);
      case 1: return p.truth(1);
      case 2: return p.function(X, p.name(X));
      default: return p.record(A, p.number(1));
    }
  }

  /** A NODE that wants a sort at its first part (at its second: SUM and LESS). */
  private static int wanting(Program p, int sort, int part, int form) {
    switch (sort) {
      case 0:
        if (form == 0) return p.sum(part, p.number(1));
        if (form == 1) return p.sum(p.number(1), part);
        return form == 2 ? p.less(part, p.number(1)) : p.less(p.number(1), part);
      case 1: return p.pick(part, p.number(1), p.number(2));
      case 2: return p.apply(part, p.number(1));
      default: return p.get(A, part);
    }
  }

  private static void goodAndElseFault() {
    sentence("both WHOLE, or both TRUTH: good. Both FUNCTIONS: b's first UNDER a's first, then a's second UNDER b's.");
    for (int is = 0; is < 4; is++) {
      for (int want = 0; want < 4; want++) {
        for (int form = 0; form < (want == 0 ? 4 : 1); form++) {
          Program p = new Program();
          int node = wanting(p, want, ofSort(p, is), form);
          int answer = p.x.type(node);
          String call = "sort " + is + " where " + want + " is wanted, form " + form;
          due(call, answer < 0 ? answer : 0, is == want ? 0 : FAULT);
          due(call + ": where", p.x.where(), is == want ? NONE : node);
        }
      }
    }
    sentence("Else: FAULT.");
    // The same by a VARIABLE: the APPLY asks.
    for (int is = 0; is < 4; is++) {
      for (int want = 0; want < 4; want++) {
        Program p = new Program();
        int node = p.apply(p.function(Y, wanting(p, want, p.name(Y), 0)), ofSort(p, is));
        int answer = p.x.type(node);
        due("by a VARIABLE", answer < 0 ? answer : 0, is == want ? 0 : FAULT);
        due("where", p.x.where(), is == want ? NONE : node);
      }
    }
    Program p = new Program();
    // A FUNCTION of a truth where one of a whole is wanted: its first part is asked the other way.
    int wants = p.function(Y, p.sum(p.apply(p.name(Y), p.number(1)), p.number(1)));
    due("FUNCTION's first", p.x.type(p.apply(wants, p.function(X, p.pick(p.name(X), p.number(1), p.number(2))))), FAULT);
    Program q = new Program();
    wants = q.function(Y, q.sum(q.apply(q.name(Y), q.number(1)), q.number(1)));
    due("FUNCTION's second", q.x.type(q.apply(wants, q.function(X, q.truth(1)))), FAULT);
    Program r = new Program();
    wants = r.function(Y, r.sum(r.apply(r.name(Y), r.number(1)), r.number(1)));
    due("both good", r.x.type(r.apply(wants, r.function(X, r.name(X)))), 4);
  }

  private static void lackedLabel() {
    sentence("Both RECORDS: for each label of b in order: a lacks it: FAULT; else a's UNDER b's.");
    Program p = new Program();
    due("empty", p.typed(p.get(A, p.record())), "-7 at 1, 1 steps ");
    due("another label", p.typed(p.get(A, p.record(B, p.number(1)))), "-7 at 4, 1 steps ");
    int six = p.record(F, p.number(1), E, p.number(1), D, p.truth(1), C, p.number(1), B, p.number(1), A, p.record());
    due("the last of six", p.typed(p.get(A, six)), "1 at -9, 2 steps |'0{}.");
    Program q = new Program();
    int record = q.record(Z, q.truth(1), Y, q.number(1));
    due("the first", q.typed(q.get(Z, record)), "1 at -9, 2 steps |'0t.");
    Program r = new Program();
    due("a's", r.typed(r.sum(r.get(Z, r.record(Z, r.truth(1))), r.number(1))), "-7 at 4, 4 steps ");
  }

  private static void comesAbove() {
    sentence("a is a VARIABLE, and b's LEVEL not above its: b comes behind ABOVE a; then each that is BELOW a then, in order, UNDER b.");
    Program p = new Program();
    // The LEVELS are the same: r comes ABOVE x, not x BELOW r.
    int node = p.function(X, p.function(Y, p.pick(p.truth(1), p.name(X), p.name(Y))));
    due("LEVEL 0 and 0", p.typed(node), "3 at -9, 3 steps >&'0'2.>&'1'2.'2");
    due("r", p.variable(2), "0 0 0");
    Program q = new Program();
    // t 1; t 2, {} 3, w 4 UNDER v1; v1 UNDER v0 5, {} 6, w 7; t 8.
    int inner = q.pick(q.truth(1), q.record(), q.number(1));
    due("in order", q.typed(q.pick(q.truth(1), inner, q.truth(0))), "2 at -9, 8 steps |'0{}wt.");
    inner = q.pick(q.truth(1), q.number(1), q.record());
    due("in that order", q.typed(q.pick(q.truth(1), inner, q.truth(0))), "2 at -9, 8 steps |'0w{}t.");
    Program r = new Program();
    int itself = r.rec(A, r.name(A), r.number(1));
    due("a VARIABLE UNDER itself", r.typed(itself), "1 at -9, 1 steps w");
    due("comes ABOVE alone", r.variable(0), "1 0 1");
    Program s = new Program();
    // v0 UNDER w: {} and then w would be asked; the first meets FAULT.
    int sum = s.sum(s.pick(s.truth(1), s.record(), s.number(1)), s.number(1));
    due("b came first", s.typed(sum), "-7 at " + sum + ", 5 steps ");
    due("v0", s.variable(0), "0 2 1");
  }

  private static void comesBelow() {
    sentence("b is a VARIABLE, and a's LEVEL not above its: a comes behind BELOW b; then a UNDER each that is ABOVE b then, in order.");
    Program p = new Program();
    int body = p.record(A, p.sum(p.get(A, p.name(X)), p.number(1)), B, p.sum(p.get(B, p.name(X)), p.number(1)));
    int node = p.apply(p.function(X, body), p.record(A, p.truth(1), B, p.truth(1)));
    // x v0, ABOVE it {a'1} and {b'2}: the RECORD comes BELOW it, and meets FAULT at the first.
    due("FAULT", p.x.type(node), FAULT);
    due("where", p.x.where(), node);
    due("x", p.variable(0), "0 1 2");
    due("the first", p.variable(1), "0 1 1");
    due("the second", p.variable(2), "0 0 1");
    Program q = new Program();
    // z v0 (0), x v1 (1), r v2 (1): z is lower and comes BELOW x; v1 UNDER v2, so v0 UNDER v2.
    int low = q.function(Z, q.let(A, q.apply(q.function(X, q.name(X)), q.name(Z)), q.name(A)));
    due("LEVEL 0 and 1", q.typed(low), "4 at -9, 4 steps >'0|'3'0.");
    due("z", q.variable(0), "0 0 0");
    due("x", q.variable(1), "1 1 1");
    due("r", q.variable(2), "1 1 0");
  }

  private static void betweenLevels() {
    sentence("a is a VARIABLE: a UNDER what b becomes LIFTED down to a's LEVEL. b is: what a becomes LIFTED up to b's LEVEL, UNDER b.");
    Program p = new Program();
    // f v0 (0), q v1 (1), y v2 (2), f y v3 (2): LIFTED down: v4 for y, v5 for v3. r v6 (2).
    // q UNDER y: it comes BELOW y, and UNDER v4: v4's LEVEL is below q's: it comes ABOVE q. v3 UNDER v6, v5 UNDER v6.
    int inner = p.apply(p.function(Y, p.apply(p.name(F), p.name(Y))), p.name(G));
    int node = p.function(F, p.let(A, p.function(G, p.let(B, inner, p.name(B))), p.name(A)));
    due("three LEVELS", p.typed(node), "10 at -9, 7 steps >&'0>'4'5.>&'8'4.|'9'5.");
    due("q", p.variable(1), "1 0 1");
    due("ABOVE q", p.above(1, 0), "'4");
    due("y", p.variable(2), "2 1 1");
    due("BELOW y", p.below(2, 0), "'1");
    due("v3", p.variable(3), "2 1 1");
    due("v4", p.variable(4), "0 0 0");
    due("v6", p.variable(6), "2 1 0");
    due("v7", p.variable(7), "1 1 0");
    Program q = new Program();
    // down to LEVEL 1, not to 0: x v0 (1) of a FUNCTION in a LET, y v1 (2).
    int one = q.function(X, q.let(A, q.function(Y, q.apply(q.name(X), q.name(Y))), q.number(1)));
    due("down to a's LEVEL", q.typed(q.let(B, one, q.number(2))), "5 at -9, 2 steps w");
    due("for y", q.x.variable(3, 0), 1);
    due("for r", q.x.variable(4, 0), 1);
  }

  private static void oneTimeOfAsking() {
    sentence("(up or down, to a LEVEL m; one time of asking, in which the same VARIABLE the same way becomes the same one)");
    Program p = new Program();
    int same = p.apply(p.name(Z), p.record(A, p.name(Y), B, p.name(Y)));
    due("the same way", p.typed(p.function(Z, p.let(A, p.function(Y, same), p.name(A)))),
        "7 at -9, 2 steps >&'0>{a'3b'3}'4.>&'5'3.|'6'4.");
    Program q = new Program();
    // y v1 is LIFTED down as v3, which comes BELOW it; then up as v4, BELOW which v3 comes.
    int both = q.apply(q.name(Z), q.function(Y, q.name(Y)));
    due("both ways", q.typed(q.function(Z, q.let(A, both, q.name(A)))), "7 at -9, 2 steps >&'0>>'3|'4'3.'5.|'6'5.");
    due("y", q.variable(1), "1 1 1");
    Program r = new Program();
    int twice = r.record(A, r.apply(r.name(Z), r.name(Y)), B, r.apply(r.name(Z), r.name(Y)));
    due("two times of asking", r.typed(r.function(Z, r.let(A, r.function(Y, twice), r.name(A)))),
        "11 at -9, 4 steps >&'0>'3'4>'6'7.>&'8'3'6.{a|'9'4.b|'10'7.}");
    sentence("MADE ANEW (above m, at l; one time of asking, as above)");
    Program s = new Program();
    int id = s.function(Y, s.name(Y));
    due("two NAMES", s.typed(s.let(A, id, s.record(A, s.name(A), B, s.name(A)))), "3 at -9, 0 steps {a>'1'1b>'2'2}");
  }

  private static void liftedBounds() {
    sentence("up: n comes behind ABOVE it, and BELOW n come all that were BELOW it ahead, LIFTED up, in order; down: n comes behind BELOW it, and ABOVE n all that were ABOVE it ahead, LIFTED down.");
    Program p = new Program();
    // v1 of the PICK, BELOW it {} and w; v3 of it; v4 of r.
    int up = p.apply(p.name(Z), p.pick(p.truth(1), p.record(), p.number(1)));
    due("up", p.typed(p.function(Z, p.let(A, up, p.name(A)))), "6 at -9, 5 steps >&'0>|'3{}w.'4.|'5'4.");
    due("v1", p.variable(1), "1 2 1");
    due("ABOVE v1", p.above(1, 0), "'3");
    due("v3", p.variable(3), "0 2 0");
    Program q = new Program();
    // y v1, y.a v2: ABOVE y {a'2} and w, ABOVE v2 w. y LIFTED down: v4, v5 for v2.
    int function = q.function(Y, q.sum(q.get(A, q.name(Y)), q.name(Y)));
    int down = q.function(Z, q.let(A, q.apply(q.name(Z), function), q.name(A)));
    due("down", q.typed(down), "8 at -9, 5 steps >&'0>>&'4{a&'5w.}w.w'6.|'7'6.");
    due("v1", q.variable(1), "1 1 2");
    due("BELOW v1", q.below(1, 0), "'4");
    due("v4", q.variable(4), "0 0 2");
    due("v5", q.variable(5), "0 0 1");
  }

  private static void madeAnewBounds() {
    sentence("VARIABLE: a new one n (l), BELOW it all that are BELOW MADE ANEW in order, then ABOVE likewise.");
    Program p = new Program();
    // e v0, p v1, f.a v2: ABOVE e {a'2}, BELOW it {a>'1'1 b'2}, BELOW v2 >'1'1. Anew: v3 e, v4 p, v5 of v2.
    int rec = p.rec(F, p.record(A, p.function(X, p.name(X)), B, p.get(A, p.name(F))), p.name(F));
    due("BELOW ahead of ABOVE", p.typed(rec), "6 at -9, 4 steps |'3{a>'4'4b|'5>'4'4.}.");
    due("v3", p.variable(3), "0 1 1");
    due("ABOVE v3", p.above(3, 0), "{a'5}");
    Program q = new Program();
    // y v0, r v1 ABOVE it, w BELOW r: anew v2 of y, and by its ABOVE v3 of r.
    int function = q.function(Y, q.pick(q.truth(1), q.name(Y), q.number(1)));
    due("ABOVE", q.typed(q.let(A, function, q.name(A))), "4 at -9, 3 steps >&'2'3.|'3w.");
    Program r = new Program();
    int pick = r.pick(r.truth(1), r.record(), r.number(1));
    due("in order", r.typed(r.let(A, pick, r.name(A))), "2 at -9, 3 steps |'1{}w.");
  }

  private static void wholeProgram() {
    sentence("A NODE is typed as a whole program (as if it were no part): how many VARIABLES came.");
    Program p = new Program();
    int name = p.name(A);
    int function = p.function(B, name);
    int let = p.let(A, p.number(1), function);
    due("the LET", p.typed(let), "1 at -9, 0 steps >'0w");
    due("its part", p.typed(function), "-7 at " + name + ", 0 steps ");
    due("its NAME", p.typed(name), "-7 at " + name + ", 0 steps ");
    due("none came", p.x.count(1), 0);
    due("its first part", p.typed(name + 2), "0 at -9, 0 steps w");
    due("the LET again", p.typed(let), "1 at -9, 0 steps >'0w");
    for (int none : new int[] {-1, 4, 120, MIN, MAX}) due("NODE " + none, p.x.type(none), BAD);
    due("behind BAD", p.signs(), ">'0w");
    due("of no NODES", new PolarTypes().type(0), BAD);
  }

  private static void latest() {
    sentence("BAD; SPENT; FAULT.");
    sentence("(It is the latest one then, also with SPENT, FAULT.)");
    Program p = new Program();
    int good = p.function(A, p.name(A));
    int fault = p.apply(p.number(1), p.number(2));
    int spent = p.number(1);
    for (int i = 0; i < 61; i++) spent = p.function(B, spent);
    int[] nodes = {good, fault, spent};
    String[] due = {"1 at -9, 0 steps >'0'0", "-7 at " + fault + ", 1 steps ", "-6 at " + (spent - 60) + ", 0 steps "};
    int[] came = {1, 1, 60};
    for (int first = 0; first < 3; first++) {
      for (int second = 0; second < 3; second++) {
        due("the first", p.typed(nodes[first]), due[first]);
        due("the second", p.typed(nodes[second]), due[second]);
        due("its VARIABLES", p.x.count(1), came[second]);
        due("its last VARIABLE", p.x.variable(came[second] - 1, 0), 0);
        due("no more", p.x.variable(came[second], 0), BAD);
      }
    }
  }

  private static void where() {
    sentence("The NODE whose TYPING asked what met the FAULT (or SPENT) of the latest type(): the one that asks UNDER, the NAME; NONE: it had neither, or there was none.");
    PolarTypes x = new PolarTypes();
    due("there was none", x.where(), NONE);
    x.node(0, 1, 0, 0, 0);
    due("still none", x.where(), NONE);
    x.type(1);
    due("behind BAD", x.where(), NONE);
    x.type(0);
    due("it had neither", x.where(), NONE);
    Program p = new Program();
    int name = p.name(A);
    due("FAULT", p.x.type(name), FAULT);
    due("NODE 0, the NAME", p.x.where(), 0);
    int record = p.record(A, p.number(1), B, name);
    p.x.type(record);
    due("within others", p.x.where(), name);
    int outer = p.function(A, record);
    p.x.type(outer);
    due("bound now", p.x.where(), NONE);
    p.x.type(name);
    due("FAULT again", p.x.where(), name);
    p.x.field(record, C, p.number(1));
    due("there is none any more", p.x.where(), NONE);
    Program q = new Program();
    int self = q.rec(A, q.sum(q.get(B, q.name(A)), q.number(1)), q.number(1));
    due("w UNDER e", q.x.type(self), FAULT);
    due("the REC", q.x.where(), self);
    sentence("(SPENT by TYPING that is too deep: the NODE that was due.)");
    Program r = new Program();
    int node = r.name(A);
    for (int i = 0; i < 70; i++) node = r.function(B, node);
    for (int i = 60; i <= 70; i++) {
      due("SPENT", r.x.type(i), SPENT);
      due("the 61st", r.x.where(), i - 60);
    }
    due("FAULT", r.x.type(59), FAULT);
    due("the 60th, a NAME", r.x.where(), 0);
  }

  private static void steps() {
    sentence("STEPS of the latest type().");
    Program p = new Program();
    due("there was none", p.x.steps(), 0);
    int sum = p.sum(p.number(1), p.sum(p.number(1), p.number(1)));
    due("none yet", p.x.steps(), 0);
    p.x.type(sum);
    due("those asked before", p.x.steps(), 4);
    p.x.type(0);
    due("none", p.x.steps(), 0);
    p.x.type(p.sum(p.truth(1), p.number(1)));
    due("FAULT", p.x.steps(), 1);
    p.x.type(99);
    due("behind BAD", p.x.steps(), 1);
    p.x.field(p.record(), A, p.number(1));
    due("there is none any more", p.x.steps(), 0);
  }

  private static void sign() {
    sentence("Sign i of the TYPE of the latest type(), TOLD the way out; - 1: how many are kept; NONE: none such. STATE: it was SPENT, FAULT, or there was none.");
    Program p = new Program();
    int[] places = {-1, 0, 1, -2, 400, MIN, MAX};
    for (int i : places) due("there was none", p.x.sign(i), STATE);
    int one = p.number(1);
    for (int i : places) due("none yet", p.x.sign(i), STATE);
    p.x.type(one);
    due("how many", p.x.sign(-1), 1);
    due("the only one", p.x.sign(0), 'w');
    for (int i : new int[] {1, 2, 399, 400, MAX, -2, MIN}) due("none such: " + i, p.x.sign(i), NONE);
    due("FAULT", p.x.type(p.name(A)), FAULT);
    for (int i : places) due("it was FAULT", p.x.sign(i), STATE);
    p.x.type(99);
    for (int i : places) due("still, behind BAD", p.x.sign(i), STATE);
    int deep = one;
    for (int i = 0; i < 61; i++) deep = p.function(A, deep);
    p.x.type(one);
    due("good", p.x.sign(0), 'w');
    due("SPENT", p.x.type(deep), SPENT);
    for (int i : places) due("it was SPENT", p.x.sign(i), STATE);
  }

  private static void variable() {
    sentence("Of VARIABLE v of the latest type(): 0 its LEVEL, 1 how many are BELOW, 2 ABOVE. BAD: none such, what. (Also behind FAULT, SPENT: as far as it came.)");
    Program p = new Program();
    for (int v : new int[] {-1, 0, MIN, MAX}) due("there was none", p.x.variable(v, 0), BAD);
    int function = p.function(A, p.sum(p.name(A), p.number(1)));
    due("none yet", p.x.variable(0, 0), BAD);
    p.x.type(function);
    due("v0", p.variable(0), "0 0 1");
    for (int v : new int[] {-1, 1, MIN, MAX}) due("none such: " + v, p.x.variable(v, 0), BAD);
    for (int what : new int[] {-1, 3, MIN, MAX}) due("what " + what, p.x.variable(0, what), BAD);
    p.x.type(0);
    due("of FAULT: none came", p.x.variable(0, 0), BAD);
    p.x.type(p.let(B, p.function(C, p.name(D)), p.number(1)));
    due("behind FAULT", p.variable(0), "1 0 0");
    due("not so far", p.x.variable(1, 0), BAD);
    int deep = p.number(1);
    for (int i = 0; i < 59; i++) deep = p.get(A, deep);
    due("SPENT", p.x.type(p.let(A, p.function(A, p.name(A)), p.record(A, p.name(A), B, deep))), SPENT);
    due("behind SPENT", p.variable(1), "0 0 0");
    due("not so far", p.x.variable(2, 0), BAD);
  }

  private static void bound() {
    sentence("Sign j of what is at place i BELOW (above: ABOVE) a VARIABLE of the latest type(), TOLD the way out (above: the way in); - 1: how many; NONE: none such. BAD: no such VARIABLE.");
    Program p = new Program();
    for (int v : new int[] {-1, 0, MIN, MAX}) due("there was none", p.x.bound(v, true, 0, 0), BAD);
    // x v0: ABOVE {a'1} and w; BELOW nothing. ABOVE v1 w.
    int sum = p.sum(p.get(A, p.name(X)), p.name(X));
    p.x.type(p.function(X, sum));
    due("the first", p.above(0, 0), "{a&'1w.}");
    due("the second", p.above(0, 1), "w");
    due("how many", p.x.bound(0, true, 0, -1), 8);
    due("the last sign", p.x.bound(0, true, 0, 7), '}');
    for (int j : new int[] {8, 400, MAX, -2, MIN}) due("sign " + j, p.x.bound(0, true, 0, j), NONE);
    for (int i : new int[] {-1, 2, MIN, MAX}) {
      for (int j : new int[] {-1, 0}) due("place " + i, p.x.bound(0, true, i, j), NONE);
    }
    for (int j : new int[] {-1, 0}) due("nothing BELOW", p.x.bound(0, false, 0, j), NONE);
    for (int v : new int[] {-1, 2, MIN, MAX}) {
      due("v " + v, p.x.bound(v, true, 0, 0), BAD);
      due("BAD ahead of NONE", p.x.bound(v, false, 9, 9), BAD);
    }
    due("the TYPE stands", p.signs(), ">&'0{a&'1w.}w.w");
    // As far as it came: BELOW x the RECORD, which lacks a.
    int apply = p.apply(p.function(Y, p.sum(p.name(Y), p.get(A, p.name(Y)))), p.record(B, p.truth(1)));
    due("FAULT", p.x.type(apply), FAULT);
    due("behind FAULT", p.below(0, 0), "{bt}");
    due("behind FAULT, ABOVE", p.above(0, 0), "w");
    p.x.field(p.record(), A, p.number(1));
    due("there is none any more", p.x.bound(0, false, 0, 0), BAD);
    Program q = new Program();
    // What is ABOVE is told the way in, what is BELOW the way out: r v1 of x x has BELOW and ABOVE.
    int self = q.apply(q.function(X, q.apply(q.name(X), q.name(X))), q.function(Y, q.name(Y)));
    due("type", q.typed(self), "4 at -9, 10 steps |'3>&'2&'1'3..|'2>&'2&'1'3..'2..");
    due("ABOVE v1", q.above(1, 0), "'3");
    due("ABOVE v2", q.above(2, 0), "&'1'3.");
    due("BELOW v2", q.below(2, 0), ">&'2&'1'3..|'2>&'2&'1'3..'2.");
    due("ABOVE v0, its first", q.above(0, 0), ">|'0>&'2&'1'3..|'2>&'2&'1'3..'2..&'1'3.");
    due("ABOVE v0, its second", q.above(0, 1), "&'2&'1'3..");
  }
}
