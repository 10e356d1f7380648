/**
 * Each sentence of '2 TYPES' on STEPS and on what is SPENT: as much as there may be, and one more. The answers are
 * written by hand.
 */
public final class EdgesOfLimitsTest extends Checks {
  public static void main(String[] args) {
    eachIsAStep();
    mostSteps();
    mostVariables();
    mostVariablesByKind();
    mostTypes();
    deepUnder();
    deepUnderBySecondParts();
    deepUnderOfRec();
    deepUnderBelow();
    deepLiftedDown();
    deepLiftedUp();
    deepMadeAnew();
    notAboveDeepToo();
    deepTyping();
    eachOfItsOwnSort();
    metFirst();
    levelOfParts();
    liftedUpToItsOwnLevel();
    end("EdgesOfLimitsTest");
  }

  /** So many SUMS within one another: 2 STEPS each. */
  private static int sums(Program p, int many) {
    int sum = p.number(1);
    for (int i = 0; i < many; i++) sum = p.sum(p.number(1), sum);
    return sum;
  }

  private static int fields(Program p, int many, int part) {
    int whole = part;
    for (int i = 0; i < many; i++) whole = p.get(A, whole);
    return whole;
  }

  private static int records(Program p, int many, int part) {
    int whole = part;
    for (int i = 0; i < many; i++) whole = p.record(A, whole);
    return whole;
  }

  private static int functions(Program p, int many, int body) {
    int whole = body;
    for (int i = 0; i < many; i++) whole = p.function(Y, whole);
    return whole;
  }

  private static void eachIsAStep() {
    sentence("STEPS: each UNDER that is asked (those asked before, and one that is too deep, too).");
    Program p = new Program();
    due("asked before", p.typed(p.function(X, p.sum(p.name(X), p.sum(p.name(X), p.name(X))))), "1 at -9, 4 steps >&'0w.w");
    due("WHOLE", p.typed(sums(p, 10)), "0 at -9, 20 steps w");
    Program q = new Program();
    // 29 FIELDS and the SUM: 31. The FUNCTION 32 (1 deep), the RECORD UNDER x 33 (2 deep), then two for each FIELD:
    // w UNDER the last is the 91st and 60 deep, w UNDER w the 92nd and 61 deep.
    int takes = q.function(X, q.sum(fields(q, 29, q.name(X)), q.number(1)));
    int deep = q.apply(takes, records(q, 29, q.number(1)));
    due("too deep", q.typed(deep), "-6 at " + deep + ", 92 steps ");
    due("its VARIABLES", q.x.count(1), 31);
    due("the last FIELD's", q.variable(29), "0 1 1");
    due("the APPLY's", q.variable(30), "0 0 0");
  }

  /** 1490 STEPS, 36 VARIABLES: a FUNCTION that applies what it gets to itself, given one of many FUNCTIONS. */
  private static int manySteps(Program p) {
    int body = p.apply(p.name(A), p.name(A));
    for (int i = 0; i < 5; i++) body = p.pick(p.truth(1), body, p.apply(p.name(A), p.name(A)));
    int given = p.function(B, p.name(B));
    for (int i = 0; i < 11; i++) given = p.pick(p.truth(1), given, p.function(B, p.name(B)));
    return p.apply(p.function(A, body), given);
  }

  private static void mostSteps() {
    sentence("Above 1500,");
    Program p = new Program();
    int base = manySteps(p);
    due("many", p.x.type(base), 36);
    due("1490", p.x.steps(), 1490);
    due("1500", p.x.type(p.record(A, base, B, sums(p, 5))), 36);
    due("STEPS", p.x.steps(), 1500);
    due("it had neither", p.x.where(), NONE);
    due("it is told", p.x.sign(0), '{');
    Program q = new Program();
    int pick = q.pick(q.truth(1), q.number(1), q.number(2));
    due("1501", q.x.type(q.record(A, manySteps(q), B, sums(q, 4), C, pick)), SPENT);
    due("STEPS", q.x.steps(), 1501);
    due("the PICK", q.x.where(), pick);
    due("its VARIABLE came", q.x.count(1), 37);
    due("with what came BELOW it", q.variable(36), "0 1 0");
    due("no TYPE", q.x.sign(-1), STATE);
    Program r = new Program();
    int fault = r.sum(r.number(1), r.truth(1));
    due("FAULT at the 1500th", r.x.type(r.record(A, manySteps(r), B, sums(r, 4), C, fault)), FAULT);
    due("STEPS", r.x.steps(), 1500);
    due("where", r.x.where(), fault);
    Program s = new Program();
    int late = s.sum(s.truth(1), s.number(1));
    due("SPENT at the 1501st", s.x.type(s.record(A, manySteps(s), B, sums(s, 5), C, late)), SPENT);
    due("STEPS", s.x.steps(), 1501);
    due("where", s.x.where(), late);
    Program t = new Program();
    int name = t.name(Z);
    due("behind 1500 what asks nothing", t.x.type(t.record(A, manySteps(t), B, sums(t, 5), C, name)), FAULT);
    due("the NAME", t.x.where(), name);
    due("anew", t.typed(t.sum(t.number(1), t.number(2))), "0 at -9, 2 steps w");
  }

  private static void mostVariables() {
    sentence("or with more than 150 VARIABLES,");
    for (int many = 147; many <= 150; many++) {
      Program p = new Program();
      due("VARIABLES", p.x.type(EdgesOfTellingTest.filler(p, many)), many);
      due("count", p.x.count(1), many);
      due("the last", p.x.variable(many - 1, 0), 0);
      due("no more", p.x.variable(many, 0), BAD);
      due("no STEPS", p.x.steps(), 0);
    }
    Program p = new Program();
    int name = p.name(Y);
    int more = p.let(Y, p.function(X, p.name(X)), p.let(Z, EdgesOfTellingTest.filler(p, 149), name));
    due("the 151st, MADE ANEW", p.x.type(more), SPENT);
    due("the NAME", p.x.where(), name);
    due("150 came", p.x.count(1), 150);
    due("the first", p.variable(0), "1 0 0");
    due("the 150th", p.x.variable(149, 0), 1);
    due("no 151st", p.x.variable(150, 0), BAD);
    Program q = new Program();
    due("the 150th, MADE ANEW", q.x.type(q.let(Y, q.function(X, q.name(X)),
        q.let(Z, EdgesOfTellingTest.filler(q, 148), q.name(Y)))), 150);
    due("signs", q.signs(), ">'149'149");
  }

  private static int newVariable(Program p, int kind) {
    switch (kind) {
      case 3: return p.function(X, p.number(1));
      case 4: return p.apply(p.number(1), p.number(2));
      case 6: return p.get(A, p.number(1));
      case 8: return p.rec(X, p.number(1), p.number(2));
      default: return p.pick(p.truth(1), p.number(1), p.number(2));
    }
  }

  private static void mostVariablesByKind() {
    for (int kind : new int[] {3, 4, 6, 8, 9}) {
      boolean faults = kind == 4 || kind == 6;
      Program p = new Program();
      int last = newVariable(p, kind);
      due("the 150th by KIND " + kind, p.x.type(p.let(Z, EdgesOfTellingTest.filler(p, 149), last)), faults ? FAULT : 150);
      due("150 came", p.x.count(1), 150);
      Program q = new Program();
      last = newVariable(q, kind);
      due("the 151st by KIND " + kind, q.x.type(q.let(Z, EdgesOfTellingTest.filler(q, 150), last)), SPENT);
      due("150 came", q.x.count(1), 150);
      due("where", q.x.where(), last);
      due("STEPS", q.x.steps(), kind == 9 ? 1 : 0);
    }
    // x v0; in the LET the APPLY's r is the last but one, and by LIFTING another one comes.
    Program p = new Program();
    int lifts = p.let(Y, p.apply(p.name(X), p.number(1)), p.number(2));
    due("the 150th, LIFTED", p.x.type(p.function(X, p.let(Z, EdgesOfTellingTest.filler(p, 147), lifts))), 150);
    due("STEPS", p.x.steps(), 2);
    Program q = new Program();
    int apply = q.apply(q.name(X), q.number(1));
    lifts = q.let(Y, apply, q.number(2));
    due("the 151st, LIFTED", q.x.type(q.function(X, q.let(Z, EdgesOfTellingTest.filler(q, 148), lifts))), SPENT);
    due("STEPS", q.x.steps(), 1);
    due("the APPLY", q.x.where(), apply);
    due("150 came", q.x.count(1), 150);
  }

  /** 528 TYPES of which 3 VARIABLES, others more, and then last: all by LETS. */
  private static int types(Program p, int others, int last) {
    int[] firsts = new int[4];
    for (int i = 0; i < 4; i++) {
      firsts[i] = p.record();
      for (int j = 0; j < 6; j++) p.x.field(firsts[i], j, i == 0 ? p.name(X) : p.name(i - 1));
    }
    int tree = p.name(3);
    for (int i = 3; i >= 0; i--) tree = p.let(i, firsts[i], tree);
    // VARIABLE, 4 RECORDS, FUNCTION: 6. Twice MADE ANEW: VARIABLE, 259 RECORDS, FUNCTION.
    int all = last;
    if (others > 0) {
      int[] some = new int[others];
      for (int i = 0; i < others; i++) {
        some[i] = p.record();
        if (i > 0) p.x.field(some[(i - 1) / 6], (i - 1) % 6, some[i]);
      }
      all = p.let(10, some[0], all);
    }
    return p.let(7, p.function(X, tree), p.let(8, p.name(7), p.let(9, p.name(7), all)));
  }

  private static void mostTypes() {
    sentence("600 TYPES (VARIABLES, FUNCTIONS, RECORDS)");
    String[] calls = {"RECORD", "FUNCTION", "APPLY", "FIELD", "PICK", "REC"};
    // How many TYPES each makes, and what it answers when they are there.
    int[] makes = {1, 2, 2, 2, 1, 1};
    int[] good = {3, 4, FAULT, FAULT, 4, 4};
    for (int i = 0; i < calls.length; i++) {
      for (int others = 72 - makes[i]; others <= 72; others++) {
        Program p = new Program();
        int last = i == 0 ? p.record() : newVariable(p, new int[] {0, 3, 4, 6, 9, 8}[i]);
        boolean fits = others + makes[i] <= 72;
        due(calls[i] + " behind " + (528 + others), p.x.type(types(p, others, last)), fits ? good[i] : SPENT);
        due("where", p.x.where(), fits && good[i] != FAULT ? NONE : last);
        due("VARIABLES", p.x.count(1), i == 0 || others == 72 ? 3 : 4);
      }
    }
    Program p = new Program();
    due("528", p.x.type(types(p, 0, p.number(1))), 3);
    Program q = new Program();
    int name = q.name(7);
    due("MADE ANEW", q.x.type(types(q, 0, name)), SPENT);
    due("the NAME", q.x.where(), name);
    due("its VARIABLE came", q.x.count(1), 4);
  }

  private static void deepUnder() {
    sentence("or one UNDER, LIFTED, MADE ANEW, TYPING more than 60 deep in those of its own sort");
    Program p = new Program();
    // FUNCTION 1, RECORD UNDER x 2, and two for each FIELD.
    int deep = p.apply(p.function(X, fields(p, 29, p.name(X))), records(p, 29, p.number(1)));
    due("60", p.typed(deep), "31 at -9, 91 steps |'30w.");
    Program q = new Program();
    int takes = q.function(X, q.sum(fields(q, 29, q.name(X)), q.number(1)));
    deep = q.apply(takes, records(q, 29, q.number(1)));
    due("61", q.x.type(deep), SPENT);
    due("where", q.x.where(), deep);
  }

  private static int applied(Program p, int many, int what) {
    int whole = what;
    for (int i = 0; i < many; i++) whole = p.apply(whole, p.number(1));
    return whole;
  }

  private static void deepUnderBySecondParts() {
    Program p = new Program();
    // FUNCTION 1, FUNCTION UNDER f 2, and two for each APPLY: UNDER that of w TO r, and its second part UNDER r.
    int takes = p.function(F, applied(p, 29, p.name(F)));
    due("60 by second parts", p.x.type(p.apply(takes, functions(p, 29, p.number(1)))) > 0 ? 1 : 0, 1);
    Program q = new Program();
    takes = q.function(F, q.sum(applied(q, 29, q.name(F)), q.number(1)));
    int deep = q.apply(takes, functions(q, 29, q.number(1)));
    due("61 by second parts", q.x.type(deep), SPENT);
    due("where", q.x.where(), deep);
    Program r = new Program();
    takes = r.function(F, applied(r, 30, r.name(F)));
    due("62 by second parts", r.x.type(r.apply(takes, functions(r, 30, r.number(1)))), SPENT);
  }

  /** REC e of a RECORD: b is a FIELD of a FIELD of .. e, a as many RECORDS. */
  private static int recOf(Program p, int deep, boolean sum) {
    int part = fields(p, deep, p.name(E));
    return p.rec(E, p.record(B, sum ? p.sum(part, p.number(1)) : part, A, records(p, deep - 1, p.number(1))), p.number(1));
  }

  private static void deepUnderOfRec() {
    Program p = new Program();
    // The RECORD UNDER e 1, UNDER {a ..} 2, and two for each FIELD: w UNDER the 29th 59, UNDER w 60.
    due("60", p.x.type(recOf(p, 29, true)), 30);
    Program q = new Program();
    // w UNDER the 30th 61.
    int rec = recOf(q, 30, false);
    due("61", q.x.type(rec), SPENT);
    due("the REC", q.x.where(), rec);
    due("e", q.variable(0), "1 1 1");
    due("its 30th FIELD's", q.variable(30), "1 0 0");
  }

  private static void deepUnderBelow() {
    Program p = new Program();
    // A PICK's FUNCTION: all is one deeper. v with w BELOW it UNDER the 28th: 59; so w UNDER that: 60.
    int takes = p.pick(p.truth(1), p.function(X, fields(p, 28, p.name(X))), p.function(Y, p.number(1)));
    int given = records(p, 28, p.pick(p.truth(1), p.number(1), p.number(2)));
    due("60, what is BELOW", p.x.type(p.apply(takes, given)) > 0 ? 1 : 0, 1);
    Program q = new Program();
    // v UNDER the 29th: 60; w: 61.
    int deep = q.apply(q.function(X, fields(q, 29, q.name(X))), records(q, 29, q.pick(q.truth(1), q.number(1), q.number(2))));
    due("61, what is BELOW", q.x.type(deep), SPENT);
    due("where", q.x.where(), deep);
  }

  /** In a LET a FUNCTION is applied to k RECORDS of i RECORDS of a PICK. */
  private static int liftedDown(Program p, int outer, int inner) {
    int first = p.function(X, records(p, inner, p.pick(p.truth(1), p.number(1), p.number(2))));
    int apply = p.apply(p.name(Z), records(p, outer, p.name(A)));
    return p.function(Z, p.let(C, p.let(A, first, apply), p.name(C)));
  }

  private static void deepLiftedDown() {
    Program p = new Program();
    // FUNCTION 1, RECORDS 2 .., FUNCTION, RECORDS, the PICK's VARIABLE 59, w BELOW it 60.
    due("LIFTED down, 60", p.x.type(liftedDown(p, 28, 28)), 10);
    Program q = new Program();
    due("LIFTED down, 61", q.x.type(liftedDown(q, 29, 28)), SPENT);
    due("the APPLY", q.x.told(q.x.where(), 0), 4);
    due("as far as it came", q.x.count(1), 8);
    due("the PICK's, LIFTED: w did not come", q.variable(7), "0 0 0");
  }

  /** In a LET a FUNCTION that applies f is applied to RECORDS of y. */
  private static int liftedUp(Program p, int outer, int inner) {
    int function = p.function(X, p.apply(p.name(F), p.name(X)));
    int apply = p.apply(function, records(p, outer, p.name(B)));
    return p.function(F, p.let(A, p.function(Y, p.let(B, records(p, inner, p.name(Y)), apply)), p.number(1)));
  }

  private static void deepLiftedUp() {
    Program p = new Program();
    // 59 RECORDS, y 60. f v0, y v1, x v2, v3; LIFTED v4, v5; r v6; y LIFTED v7.
    due("LIFTED up, 60", p.x.type(liftedUp(p, 30, 29)), 8);
    due("y", p.variable(1), "1 0 1");
    due("for y", p.above(1, 0), "'7");
    Program q = new Program();
    due("LIFTED up, 61", q.x.type(liftedUp(q, 30, 30)), SPENT);
    due("the APPLY", q.x.told(q.x.where(), 0), 4);
    due("not for y", q.x.count(1), 7);
  }

  /** b is k RECORDS of a, which is a FUNCTION of i RECORDS of x. */
  private static int madeAnew(Program p, int outer, int inner, int part) {
    return p.let(A, p.function(X, records(p, inner, part)), p.let(B, records(p, outer, p.name(A)), p.name(B)));
  }

  private static void deepMadeAnew() {
    Program p = new Program();
    // 29 RECORDS, FUNCTION 30, RECORDS 31 to 59, x 60.
    due("MADE ANEW, 60", p.x.type(madeAnew(p, 29, 29, p.name(X))), 3);
    Program q = new Program();
    int all = madeAnew(q, 30, 29, q.name(X));
    due("MADE ANEW, 61", q.x.type(all), SPENT);
    due("the NAME b", q.x.told(q.x.where(), 1), B);
  }

  private static void notAboveDeepToo() {
    sentence("(those of TYPES whose LEVEL is not above m, too): SPENT, what is met first.");
    Program p = new Program();
    // The PICK's VARIABLE 59, w BELOW it 60.
    due("MADE ANEW, a WHOLE 60", p.x.type(madeAnew(p, 29, 28, p.pick(p.truth(1), p.number(1), p.number(2)))), 6);
    Program q = new Program();
    due("MADE ANEW, a WHOLE 61", q.x.type(madeAnew(q, 29, 29, q.pick(q.truth(1), q.number(1), q.number(2)))), SPENT);
    due("the PICK's VARIABLE came", q.x.count(1), 6);
    due("w did not", q.variable(5), "0 0 0");
    // In a LET z is given {a, c: y}, LIFTED down: FUNCTION 1, the RECORD 2, a 3. a is RECORDS of z, not above LEVEL 0:
    // it is itself, and what stands in it is not looked at, deep as it is.
    for (int outer = 28; outer <= 31; outer++) {
      Program r = new Program();
      int given = r.let(B, records(r, 28, r.name(Z)), r.record(A, records(r, outer, r.name(B)), C, r.name(Y)));
      int node = r.function(Z, r.let(A, r.function(Y, r.apply(r.name(Z), given)), r.number(1)));
      due("what is not above ends there", r.x.type(node), 5);
    }
  }

  private static void deepTyping() {
    Program p = new Program();
    int deep = functions(p, 59, p.number(1));
    due("TYPING, 60", p.x.type(deep), 59);
    int more = p.function(X, deep);
    due("TYPING, 61", p.x.type(more), SPENT);
    due("the NODE that was due", p.x.where(), 0);
    due("the others came", p.x.count(1), 60);
    due("60 again", p.x.type(deep), 59);
    Program q = new Program();
    // Of a NAME, too, and it is not FAULT: it is not looked for.
    deep = fields(q, 60, q.name(A));
    due("a NAME, 61", q.typed(deep), "-6 at 0, 0 steps ");
    due("a NAME, 60", q.typed(deep - 1), "-7 at 0, 0 steps ");
  }

  private static void eachOfItsOwnSort() {
    Program p = new Program();
    // UNDER 60 deep, asked by a NODE 28 deep whose parts are 60 deep.
    int deep = p.apply(p.function(X, fields(p, 29, p.name(X))), records(p, 29, p.number(1)));
    due("UNDER within TYPING", p.x.type(functions(p, 28, deep)), 59);
    Program q = new Program();
    deep = q.apply(q.function(X, fields(q, 29, q.name(X))), records(q, 29, q.number(1)));
    due("one more", q.x.type(functions(q, 29, deep)), SPENT);
    due("a NAME that was due", q.x.where(), 0);
    Program r = new Program();
    // MADE ANEW 60 deep at 60: b stands in 57 FUNCTIONS.
    int let = r.let(A, r.function(X, records(r, 29, r.name(X))), r.let(B, records(r, 29, r.name(A)), functions(r, 50, r.name(B))));
    due("MADE ANEW within TYPING", r.x.type(let), 53);
  }

  private static void metFirst() {
    Program p = new Program();
    int spent = functions(p, 60, p.number(1));
    int unbound = p.name(A);
    due("SPENT first", p.typed(p.record(A, spent, B, unbound)), "-6 at 1, 0 steps ");
    Program q = new Program();
    spent = functions(q, 60, q.number(1));
    unbound = q.name(A);
    due("FAULT first", q.typed(q.record(A, unbound, B, spent)), "-7 at " + unbound + ", 0 steps ");
    Program r = new Program();
    int sum = r.sum(r.truth(1), functions(r, 60, r.number(1)));
    due("UNDER ahead of the second part", r.typed(sum), "-7 at " + sum + ", 1 steps ");
  }

  /** Where a probe stands, of each KIND, its VARIABLES have the LEVEL of that place. */
  private static void levelOfParts() {
    sentence("TYPING a NODE at LEVEL l (the top at 0), parts in order, each with what binds its NAMES:");
    int[] parts = {0, 0, 0, 1, 2, 2, 1, 2, 2, 3, 2, 2};
    for (int kind = 3; kind < 12; kind++) {
      for (int place = 0; place < parts[kind]; place++) {
        Program p = new Program();
        int[] all = new int[3];
        for (int i = 0; i < 3; i++) {
          int plain = kind == 9 && i == 0 ? p.truth(1) : p.number(1);
          if (kind == 4 && i == 0) plain = p.function(X, p.number(1));
          if (kind == 6) plain = p.record(A, p.number(1));
          // (q -> part) {z: 1}: q is the one VARIABLE BELOW which a RECORD with z comes.
          all[i] = i == place ? p.apply(p.function(G, plain), p.record(Z, p.number(1))) : plain;
        }
        int node = p.x.node(kind, A, all[0], all[1], all[2]);
        if (kind == 5) for (int i = 0; i < 2; i++) p.x.field(node, i, all[i]);
        due("KIND " + kind + " at " + place, p.x.type(node) >= 0 ? 1 : 0, 1);
        due("LEVEL", levelOfProbe(p), (kind == 7 || kind == 8) && place == 0 ? 1 : 0);
        int outer = p.let(Y, node, p.number(1));
        due("in a LET", p.x.type(outer) >= 0 ? 1 : 0, 1);
        due("LEVEL", levelOfProbe(p), (kind == 7 || kind == 8) && place == 0 ? 2 : 1);
      }
    }
  }

  private static int levelOfProbe(Program p) {
    for (int v = 0; v < p.x.count(1); v++) {
      if (p.x.variable(v, 1) == 1 && p.below(v, 0).equals("{zw}")) return p.x.variable(v, 0);
    }
    return NONE;
  }

  /** LIFTED up is to b's LEVEL and one time of asking, whatever was LIFTED ahead of it. */
  private static void liftedUpToItsOwnLevel() {
    sentence("what a becomes LIFTED up to b's LEVEL, UNDER b.");
    Program p = new Program();
    int function = p.function(X, p.apply(p.name(F), p.name(X)));
    int both = p.record(A, p.apply(p.name(H), p.name(Y)), B, p.apply(p.name(G), p.record(K, p.name(Y))));
    int let = p.let(A, p.function(Y, p.let(G, function, both)), p.number(1));
    // f v0 (0), h v1 (1), y v2 (2). x v3 (3), f x v4 (3): LIFTED to 0: v5 for x, v6 for v4.
    // h y v7 (2): LIFTED to 1: v8 for y, v9 for v7. g anew at 2: v10 x (ABOVE v5), v11 (BELOW v6).
    // g's r v12 (2); {k y} UNDER v10, so UNDER v5: LIFTED up to 0, not 1: v13 for y.
    int node = p.function(F, p.let(B, p.function(H, let), p.number(2)));
    due("STEPS and VARIABLES", p.typed(node), "14 at -9, 10 steps >&'0>|'5{k'13}.'6.w");
    due("y", p.variable(2), "2 0 2");
    due("for y at 1", p.above(2, 0), "'8");
    due("for y at 0", p.above(2, 1), "'13");
    due("v8", p.variable(8), "1 0 0");
    due("v13", p.variable(13), "0 0 0");
    due("v5", p.variable(5), "0 1 0");
  }
}
