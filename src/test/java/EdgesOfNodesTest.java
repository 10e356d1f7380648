import java.util.function.ToIntFunction;

/**
 * Each sentence of the document that names an edge of the NODES: 'ANSWERS', '1 NODES', promises 1 to 4. The answers
 * are written by hand.
 */
public final class EdgesOfNodesTest extends Checks {
  private static final int MIN = Integer.MIN_VALUE, MAX = Integer.MAX_VALUE;
  private static final int[] PARTS = {0, 0, 0, 1, 2, 0, 1, 2, 2, 3, 2, 2};

  public static void main(String[] args) {
    constants();
    orderOfRefusals();
    refusedChangesNothing();
    refusedChangesNoSpentNorFault();
    mostNodes();
    partOfOneAtMost();
    partCameBefore();
    kinds();
    mostFields();
    letters();
    newObject();
    valuesOfNode();
    partsOfNode();
    refusedParts();
    fieldBehindThoseItHas();
    refusedFields();
    deepInItsOwnPart();
    refusedByState();
    refusedByFull();
    noLatestType();
    told();
    toldRefused();
    end("EdgesOfNodesTest");
  }

  private static boolean hasLetter(int kind) {
    return kind == 2 || kind == 3 || kind >= 6 && kind <= 8;
  }

  /** 120 NODES: 0 a NUMBER that is a part of 1, a FUNCTION; 2 to 119 NUMBERS. */
  private static PolarTypes full() {
    PolarTypes x = new PolarTypes();
    x.node(0, 0, 0, 0, 0);
    x.node(3, 0, 0, 0, 0);
    for (int n = 2; n < 120; n++) x.node(0, n, 0, 0, 0);
    return x;
  }

  private static void constants() {
    sentence("BAD -1 (a number that is none, or not as told), FULL -2, STATE -4 (not now), SPENT -6, FAULT -7 (it has no type). NONE -9.");
    due("BAD", PolarTypes.BAD, -1);
    due("FULL", PolarTypes.FULL, -2);
    due("STATE", PolarTypes.STATE, -4);
    due("SPENT", PolarTypes.SPENT, -6);
    due("FAULT", PolarTypes.FAULT, -7);
    due("NONE", PolarTypes.NONE, -9);
  }

  private static void orderOfRefusals() {
    sentence("Refused is, the first of these that fits, in this order:");
    PolarTypes x = full();
    due("KIND ahead of FULL", x.node(12, 0, 0, 0, 0), BAD);
    due("TRUTH 2 ahead of FULL", x.node(1, 2, 0, 0, 0), BAD);
    due("letter ahead of FULL", x.node(2, 26, 0, 0, 0), BAD);
    due("no NODE ahead of FULL", x.node(3, 0, 120, 0, 0), BAD);
    due("a part already ahead of FULL", x.node(3, 0, 0, 0, 0), BAD);
    due("twice told ahead of FULL", x.node(4, 0, 2, 2, 0), BAD);
    due("FULL", x.node(4, 0, 2, 3, 0), FULL);
    Program p = new Program();
    int one = p.number(1);
    int two = p.number(2);
    due("x ahead of no RECORD", p.x.field(one, 26, two), BAD);
    due("the part ahead of no RECORD", p.x.field(one, A, one), BAD);
    due("no part ahead of no RECORD", p.x.field(one, A, 2), BAD);
    due("no RECORD", p.x.field(one, A, two), STATE);
    int record = p.record(A, one);
    due("a part already ahead of its label", p.x.field(record, A, one), BAD);
    due("its label", p.x.field(record, A, two), STATE);
    for (int i = 1; i < 6; i++) p.x.field(record, i, p.number(i));
    due("a part already ahead of FULL", p.x.field(record, G, one), BAD);
    due("x ahead of FULL", p.x.field(record, -1, two), BAD);
    due("its label ahead of FULL", p.x.field(record, F, two), STATE);
    due("FULL", p.x.field(record, G, two), FULL);
  }

  /** All that an object of few NODES tells. */
  private static String all(PolarTypes x) {
    StringBuilder text = new StringBuilder();
    for (int what = 0; what < 4; what++) text.append(x.count(what)).append(' ');
    text.append(x.digest()).append(' ').append(x.where()).append(' ').append(x.steps()).append(' ');
    for (int i = -1; i < x.sign(-1); i++) text.append(x.sign(i)).append(' ');
    for (int v = 0; v < x.count(1); v++) {
      for (int side = 0; side < 2; side++) {
        for (int i = 0; i < x.variable(v, 1 + side); i++) {
          for (int j = -1; j < x.bound(v, side == 1, i, -1); j++) text.append(x.bound(v, side == 1, i, j)).append(' ');
        }
      }
    }
    text.append(x.worked()).append(' ').append(x.stuck()).append(' ');
    for (int i = -1; i < x.value(-1); i++) text.append(x.value(i)).append(' ');
    return text.toString();
  }

  /** APPLY 3 of 1 to 2, typed and worked; RECORD 4, NAME 5 and FIELD 6 of 4; RECORD 8 with the 6 FIELDS 7 and 9 to 13. */
  private static PolarTypes some() {
    Program p = new Program();
    p.function(X, p.name(X));
    p.number(1);
    p.apply(1, 2);
    p.record();
    p.name(A);
    p.get(B, 4);
    p.record();
    p.record(A, 7);
    for (int i = 1; i < 6; i++) p.x.field(8, i, p.record());
    p.x.type(3);
    p.x.work(3, 300);
    return p.x;
  }

  private static void unchanged(String call, int want, ToIntFunction<PolarTypes> asked) {
    PolarTypes x = some();
    String before = all(x);
    due(call, asked.applyAsInt(x), want);
    due("behind " + call, all(x), before);
  }

  private static void refusedChangesNothing() {
    sentence("What is refused changes nothing but as told.");
    unchanged("node KIND", BAD, x -> x.node(12, 0, 2, 4, 5));
    unchanged("node v", BAD, x -> x.node(3, 26, 5, 0, 0));
    unchanged("node first part", BAD, x -> x.node(4, 0, 0, 5, 0));
    unchanged("node second part", BAD, x -> x.node(4, 0, 5, 0, 0));
    unchanged("node third part", BAD, x -> x.node(9, 0, 5, 3, 99));
    unchanged("node twice", BAD, x -> x.node(4, 0, 5, 5, 0));
    unchanged("field NODE", BAD, x -> x.field(99, A, 5));
    unchanged("field x", BAD, x -> x.field(4, 26, 5));
    unchanged("field part", BAD, x -> x.field(4, A, 0));
    unchanged("field in itself", BAD, x -> x.field(4, A, 6));
    unchanged("field of no RECORD", STATE, x -> x.field(0, A, 5));
    unchanged("field with its label", STATE, x -> x.field(8, A, 5));
    unchanged("field 7", FULL, x -> x.field(8, G, 5));
    unchanged("told NODE", BAD, x -> x.told(99, 0));
    unchanged("told what", BAD, x -> x.told(0, 16));
    unchanged("type", BAD, x -> x.type(-1));
    unchanged("variable", BAD, x -> x.variable(2, 0));
    unchanged("bound", BAD, x -> x.bound(2, true, 0, 0));
    unchanged("work NODE", BAD, x -> x.work(99, 9));
    unchanged("work n", BAD, x -> x.work(5, 301));
    unchanged("count", BAD, x -> x.count(4));
    PolarTypes full = full();
    due("FULL", full.node(3, 0, 2, 0, 0), FULL);
    due("NODES", full.count(0), 120);
    due("no part", full.count(2), 119);
    due("whose part", full.told(2, 3), NONE);
  }

  /** A latest type() that was FAULT or SPENT and a latest work() that was STUCK or SPENT stay, too. */
  private static void refusedChangesNoSpentNorFault() {
    PolarTypes x = some();
    due("FAULT", x.type(6), FAULT);
    due("STUCK", x.work(6, 300), 1);
    String before = all(x);
    due("type", x.type(99), BAD);
    due("work", x.work(0, -1), BAD);
    due("sign", x.sign(0), STATE);
    due("field", x.field(4, A, 4), BAD);
    due("behind FAULT and STUCK", all(x), before);
    PolarTypes y = some();
    for (int n = y.count(0); n < 78; n++) y.node(3, 0, n == 14 ? 5 : n - 1, 0, 0);
    due("SPENT", y.type(77), SPENT);
    due("SPENT work", y.work(3, 1), 2);
    String spent = y.where() + " " + y.steps() + " " + y.count(1) + " " + y.worked() + " " + y.stuck() + " " + y.digest();
    due("type", y.type(99), BAD);
    due("work", y.work(99, 1), BAD);
    due("sign", y.sign(-1), STATE);
    due("behind SPENT",
        y.where() + " " + y.steps() + " " + y.count(1) + " " + y.worked() + " " + y.stuck() + " " + y.digest(), spent);
  }

  private static void mostNodes() {
    sentence("NODES 0, 1, .. (120 at most)");
    PolarTypes x = new PolarTypes();
    for (int n = 0; n < 120; n++) due("NODE", x.node(5, 0, 0, 0, 0), n);
    due("the 120th", x.told(119, 0), 5);
    for (int kind = 0; kind < 12; kind++) due("the 121st, KIND " + kind, x.node(kind, 0, 1, 2, 3), FULL);
    due("NODES", x.count(0), 120);
    due("no NODE 120", x.told(120, 0), BAD);
    due("a FIELD still", x.field(119, A, 0), 1);
    due("type", x.type(119), 0);
    due("work", x.work(119, 2), 0);
    due("FULL still", x.node(0, 0, 0, 0, 0), FULL);
  }

  private static void partOfOneAtMost() {
    sentence("each a part of another one at most, which came later:");
    for (int kind = 0; kind < 12; kind++) {
      for (int place = 0; place < PARTS[kind]; place++) {
        PolarTypes x = new PolarTypes();
        for (int n = 0; n < 4; n++) x.node(0, n, 0, 0, 0);
        x.node(3, 0, 3, 0, 0);
        String call = "KIND " + kind + ", a part already at " + place;
        due(call, x.node(kind, 0, place == 0 ? 3 : 0, place == 1 ? 3 : 1, place == 2 ? 3 : 2), BAD);
        due("that of none", x.node(kind, 0, place == 0 ? 4 : 0, place == 1 ? 4 : 1, place == 2 ? 4 : 2), 5);
        due("whose part", x.told(4, 3), 5);
        due("whose part still", x.told(3, 3), 4);
      }
    }
  }

  private static void partCameBefore() {
    for (int kind = 3; kind < 12; kind++) {
      for (int place = 0; place < PARTS[kind]; place++) {
        PolarTypes x = new PolarTypes();
        for (int n = 0; n < 3; n++) x.node(0, n, 0, 0, 0);
        String call = "KIND " + kind + ", itself at " + place;
        due(call, x.node(kind, 0, place == 0 ? 3 : 0, place == 1 ? 3 : 1, place == 2 ? 3 : 2), BAD);
      }
    }
  }

  private static void kinds() {
    sentence("KINDS: 0 NUMBER n, 1 TRUTH b, 2 NAME x, 3 FUNCTION x (a BODY), 4 APPLY (two: what, to what), 5 RECORD");
    sentence("6 FIELD x (one), 7 LET x (two: what x is, where), 8 REC x (likewise; x is bound in both), 9 PICK (three: a truth, if so, if not), 10 SUM, 11 LESS (two).");
    PolarTypes x = new PolarTypes();
    for (int kind : new int[] {-1, 12, MIN, MAX}) due("KIND " + kind, x.node(kind, 0, 0, 0, 0), BAD);
    for (int n = 0; n < 30; n++) x.node(0, 0, 0, 0, 0);
    int free = 0;
    for (int kind = 0; kind < 12; kind++) {
      int n = x.node(kind, 1, free, free + 1, free + 2);
      free += PARTS[kind];
      due("NODE of KIND " + kind, n, 30 + kind);
      due("KIND", x.told(n, 0), kind);
      due("parts", x.told(n, 2), PARTS[kind]);
      due("no part more", x.told(free, 3), NONE);
    }
  }

  private static void mostFields() {
    sentence("5 RECORD (FIELDS, 6 at most, by labels)");
    PolarTypes x = new PolarTypes();
    x.node(5, 0, 0, 0, 0);
    for (int n = 1; n < 9; n++) x.node(0, n, 0, 0, 0);
    due("none", x.told(0, 2), 0);
    for (int n = 1; n <= 6; n++) due("FIELD", x.field(0, 26 - n, n), n);
    due("6", x.told(0, 2), 6);
    due("the 7th", x.field(0, 0, 7), FULL);
    due("6 still", x.told(0, 2), 6);
    due("no part", x.told(7, 3), NONE);
  }

  private static void letters() {
    sentence("NAMES and labels x are 0 .. 25 (a .. z).");
    for (int kind = 0; kind < 12; kind++) {
      if (!hasLetter(kind)) continue;
      PolarTypes x = new PolarTypes();
      for (int n = 0; n < 6; n++) x.node(5, 0, 0, 0, 0);
      for (int v : new int[] {-1, 26, MIN, MAX}) due("x " + v + " of KIND " + kind, x.node(kind, v, 0, 1, 2), BAD);
      due("a", x.node(kind, 0, 0, 1, 2), 6);
      due("z", x.node(kind, 25, 3, 4, 5), 7);
      due("a", x.told(6, 1), 0);
      due("z", x.told(7, 1), 25);
    }
    PolarTypes x = new PolarTypes();
    for (int n = 0; n < 3; n++) x.node(5, 0, 0, 0, 0);
    for (int label : new int[] {-1, 26, MIN, MAX}) due("label " + label, x.field(0, label, 1), BAD);
    due("label a", x.field(0, 0, 1), 1);
    due("label z", x.field(0, 25, 2), 2);
    due("label a", x.told(0, 10), 0);
    due("label z", x.told(0, 11), 25);
  }

  private static void newObject() {
    sentence("`PolarTypes()`: No NODES.");
    due("all", all(new PolarTypes()), "0 0 0 -9 17 -9 0 0 -9 ");
    PolarTypes x = new PolarTypes();
    due("sign", x.sign(-1), STATE);
    due("value", x.value(-1), NONE);
    for (int n : new int[] {-1, 0, 1, MIN, MAX}) {
      due("told", x.told(n, 0), BAD);
      due("field", x.field(n, 0, n), BAD);
      due("type", x.type(n), BAD);
      due("work", x.work(n, 1), BAD);
      due("a part", x.node(3, 0, n, 0, 0), BAD);
    }
    due("the first", x.node(5, 0, 0, 0, 0), 0);
    due("another object", new PolarTypes().count(0), 0);
  }

  private static void valuesOfNode() {
    sentence("A NODE of a KIND; v: n (0), 0 or 1 (1), x (2, 3, 6, 7, 8), else not looked at;");
    PolarTypes x = new PolarTypes();
    for (int n : new int[] {0, -1, 26, MIN, MAX}) due("n", x.told(x.node(0, n, 0, 0, 0), 1), n);
    for (int b : new int[] {-1, 2, MIN, MAX}) due("b " + b, x.node(1, b, 0, 0, 0), BAD);
    due("b 0", x.told(x.node(1, 0, 0, 0, 0), 1), 0);
    due("b 1", x.told(x.node(1, 1, 0, 0, 0), 1), 1);
    int part = 0;
    for (int n = x.count(0); n < 60; n++) x.node(0, n, 0, 0, 0);
    for (int kind : new int[] {4, 5, 9, 10, 11}) {
      for (int v : new int[] {-1, 26, MIN, MAX}) {
        due("v " + v + " of KIND " + kind, x.told(x.node(kind, v, part, part + 1, part + 2), 1), NONE);
        part += PARTS[kind];
      }
    }
  }

  private static void partsOfNode() {
    sentence("a, b, c: its parts, as many as it has (of RECORDS none; else not looked at): its number.");
    for (int kind = 0; kind < 12; kind++) {
      for (int other : new int[] {-1, 5, MIN, MAX, 0, 3}) {
        PolarTypes x = new PolarTypes();
        for (int n = 0; n < 4; n++) x.node(0, n, 0, 0, 0);
        x.node(3, 0, 3, 0, 0);
        // 3 is a part already; 0 is twice told where it is looked at.
        int many = PARTS[kind];
        int a = many > 0 ? 0 : other, b = many > 1 ? 1 : other, c = many > 2 ? 2 : other;
        due("KIND " + kind + ", others " + other, x.node(kind, 0, a, b, c), 5);
        for (int i = 0; i < 6; i++) due("part " + i, x.told(5, 4 + i), i < many ? i : NONE);
        for (int i = 0; i < 3; i++) due("whose part " + i, x.told(i, 3), i < many ? 5 : NONE);
        due("whose part still", x.told(3, 3), 4);
      }
    }
  }

  private static void refusedParts() {
    sentence("BAD: also parts that are no NODES, that are a part already, or twice told; FULL.");
    for (int kind = 3; kind < 12; kind++) {
      int many = PARTS[kind];
      PolarTypes x = new PolarTypes();
      for (int n = 0; n < 3; n++) x.node(0, n, 0, 0, 0);
      for (int place = 0; place < many; place++) {
        for (int none : new int[] {-1, 3, MIN, MAX}) {
          String call = "KIND " + kind + ", part " + none + " at " + place;
          due(call, x.node(kind, 0, place == 0 ? none : 0, place == 1 ? none : 1, place == 2 ? none : 2), BAD);
        }
      }
      if (many >= 2) due("a and b", x.node(kind, 0, 1, 1, 2), BAD);
      if (many >= 3) due("a and c", x.node(kind, 0, 1, 0, 1), BAD);
      if (many >= 3) due("b and c", x.node(kind, 0, 0, 1, 1), BAD);
      if (many >= 3) due("all", x.node(kind, 0, 1, 1, 1), BAD);
      due("NODES", x.count(0), 3);
      due("no part", x.count(2), 3);
      due("the last as the first", x.node(kind, 0, 2, 1, 0), 3);
    }
  }

  private static void fieldBehindThoseItHas() {
    sentence("A RECORD gets a FIELD, behind those that it has: how many.");
    PolarTypes x = new PolarTypes();
    int[] labels = {25, 3, 24, 0, 12, 1};
    int[] parts = {1, 9, 2, 8, 3, 7};
    for (int n = 0; n < 12; n++) x.node(n == 0 || n == 5 ? 5 : 0, n, 0, 0, 0);
    // RECORD 5 stands in the midst: some parts came later, some ahead.
    for (int i = 0; i < 6; i++) {
      due("FIELD", x.field(5, labels[i], parts[i]), i + 1);
      for (int j = 0; j < 6; j++) {
        due("part", x.told(5, 4 + j), j <= i ? parts[j] : NONE);
        due("label", x.told(5, 10 + j), j <= i ? labels[j] : NONE);
      }
    }
    for (int i = 0; i < 6; i++) due("whose part", x.told(parts[i], 3), 5);
    due("another RECORD", x.told(0, 2), 0);
    due("no part", x.count(2), 6);
  }

  private static void refusedFields() {
    sentence("BAD: the NODE, x, the part (as node(); it came later than the RECORD, perhaps, but is not that, nor does the RECORD stand in it);");
    PolarTypes x = new PolarTypes();
    x.node(5, 0, 0, 0, 0);
    x.node(0, 1, 0, 0, 0);
    x.node(0, 2, 0, 0, 0);
    x.node(3, 0, 2, 0, 0);
    for (int none : new int[] {-1, 4, MIN, MAX}) {
      due("NODE " + none, x.field(none, A, 1), BAD);
      due("part " + none, x.field(0, A, none), BAD);
    }
    for (int none : new int[] {-1, 26, MIN, MAX}) due("x " + none, x.field(0, none, 1), BAD);
    due("a part already", x.field(0, A, 2), BAD);
    due("itself", x.field(0, A, 0), BAD);
    due("it came later", x.field(0, A, 3), 1);
    due("a part already, its own", x.field(0, B, 3), BAD);
    due("a part in its own", x.field(0, B, 2), BAD);
    x.node(5, 0, 0, 0, 0);
    x.node(6, A, 0, 0, 0);
    due("it stands in that", x.field(0, B, 5), BAD);
    due("another stands in nothing", x.field(4, B, 5), 1);
    due("it stands in that now", x.field(0, C, 4), BAD);
    x.node(0, 3, 0, 0, 0);
    due("another part still", x.field(0, C, 6), 2);
  }

  private static void deepInItsOwnPart() {
    for (int kind = 3; kind < 12; kind++) {
      for (int place = 0; place < Math.max(PARTS[kind], 1); place++) {
        PolarTypes x = new PolarTypes();
        for (int n = 0; n < 3; n++) x.node(5, 0, 0, 0, 0);
        int top = kind == 5 ? 1 : x.node(kind, 0, place == 0 ? 0 : 1, place == 1 ? 0 : place == 0 ? 1 : 2, place == 2 ? 0 : 2);
        if (kind == 5) x.field(1, A, 0);
        due("in KIND " + kind + " at " + place, x.field(0, A, top), BAD);
      }
    }
    PolarTypes x = new PolarTypes();
    x.node(5, 0, 0, 0, 0);
    for (int n = 1; n < 119; n++) due("FUNCTION", x.node(3, 0, n - 1, 0, 0), n);
    x.node(0, 0, 0, 0, 0);
    due("118 within one another", x.field(0, A, 118), BAD);
    due("beside it", x.field(0, A, 119), 1);
    PolarTypes y = new PolarTypes();
    for (int n = 0; n < 120; n++) y.node(5, 0, 0, 0, 0);
    for (int n = 0; n < 119; n++) due("later ones", y.field(n, A, n + 1), 1);
    due("119 within one another", y.field(119, A, 0), BAD);
    due("in the midst", y.field(60, B, 0), BAD);
  }

  private static void refusedByState() {
    sentence("STATE: no RECORD, it has that label;");
    for (int kind = 0; kind < 12; kind++) {
      PolarTypes x = new PolarTypes();
      for (int n = 0; n < 4; n++) x.node(0, n, 0, 0, 0);
      x.node(kind, 0, 0, 1, 2);
      due("KIND " + kind, x.field(4, A, 3), kind == 5 ? 1 : STATE);
      due("whose part", x.told(3, 3), kind == 5 ? 4 : NONE);
      due("parts", x.told(4, 2), kind == 5 ? 1 : PARTS[kind]);
    }
    PolarTypes x = new PolarTypes();
    for (int n = 0; n < 9; n++) x.node(n == 0 ? 5 : 0, n, 0, 0, 0);
    for (int n = 1; n <= 6; n++) {
      due("FIELD", x.field(0, n, n), n);
      for (int label = 1; label <= n; label++) due("it has that label", x.field(0, label, 8), STATE);
    }
  }

  private static void refusedByFull() {
    sentence("FULL (behind STATE here): 6.");
    PolarTypes x = new PolarTypes();
    for (int n = 0; n < 9; n++) x.node(n == 0 ? 5 : 0, n, 0, 0, 0);
    for (int n = 1; n <= 5; n++) x.field(0, n, n);
    due("the 6th", x.field(0, 6, 6), 6);
    due("the 7th, BAD", x.field(0, 7, 6), BAD);
    due("the 7th, STATE", x.field(0, 6, 7), STATE);
    due("the 7th, FULL", x.field(0, 7, 7), FULL);
    due("again", x.field(0, 0, 8), FULL);
  }

  private static void noLatestType() {
    sentence("(Behind it there is no latest type() any more.)");
    Program p = new Program();
    int record = p.record();
    int function = p.function(A, p.sum(p.name(A), p.number(1)));
    for (int i = 0; i < 6; i++) p.number(i);
    due("typed", p.typed(function), "1 at -9, 2 steps >&'0w.w");
    due("work", p.x.work(record, 9), 0);
    due("BAD", p.x.field(record, A, record), BAD);
    due("STATE", p.x.field(function, A, record), STATE);
    due("behind BAD and STATE", p.signs(), ">&'0w.w");
    for (int i = 0; i < 6; i++) {
      due("FIELD", p.x.field(record, i, function + 1 + i), i + 1);
      due("where", p.x.where(), NONE);
      due("steps", p.x.steps(), 0);
      due("sign", p.x.sign(0), STATE);
      due("signs", p.x.sign(-1), STATE);
      due("variable", p.x.variable(0, 0), BAD);
      due("bound", p.x.bound(0, true, 0, 0), BAD);
      due("count", p.x.count(1), 0);
      due("the latest work() stands", p.value(), "{}");
      p.x.type(i % 2 == 0 ? function : 1);
    }
    p.x.type(function);
    due("FULL", p.x.field(record, G, function), FULL);
    due("behind FULL", p.signs(), ">&'0w.w");
    due("a NODE more", p.name(A), 11);
    due("behind a NODE more", p.signs(), ">&'0w.w");
  }

  private static void told() {
    sentence("Of a NODE: 0 its KIND, 1 v (NONE: it has none), 2 how many parts, 3 that whose part it is (NONE), 4 and more: part what - 4 (NONE), 10 and more: label what - 10 of a RECORD (NONE).");
    for (int kind = 0; kind < 12; kind++) {
      PolarTypes x = new PolarTypes();
      for (int n = 0; n < 3; n++) x.node(5, 0, 0, 0, 0);
      int n = x.node(kind, 1, 2, 0, 1);
      int[] parts = {2, 0, 1};
      due("KIND", x.told(n, 0), kind);
      due("v of KIND " + kind, x.told(n, 1), kind < 2 || hasLetter(kind) ? 1 : NONE);
      due("parts", x.told(n, 2), PARTS[kind]);
      due("of none", x.told(n, 3), NONE);
      for (int i = 0; i < 6; i++) due("part", x.told(n, 4 + i), i < PARTS[kind] ? parts[i] : NONE);
      for (int i = 0; i < 6; i++) due("label of KIND " + kind, x.told(n, 10 + i), NONE);
      int owner = x.node(6, 25, n, 0, 0);
      due("whose part", x.told(n, 3), owner);
    }
    PolarTypes x = new PolarTypes();
    for (int n = 0; n < 7; n++) x.node(5, 0, 0, 0, 0);
    for (int i = 0; i < 6; i++) x.field(0, 25 - i, 6 - i);
    for (int i = 0; i < 6; i++) due("part " + i, x.told(0, 4 + i), 6 - i);
    for (int i = 0; i < 6; i++) due("label " + i, x.told(0, 10 + i), 25 - i);
  }

  private static void toldRefused() {
    sentence("BAD: the NODE, what (not 0 .. 15).");
    PolarTypes x = new PolarTypes();
    x.node(5, 0, 0, 0, 0);
    for (int n : new int[] {-1, 1, MIN, MAX}) {
      for (int what : new int[] {0, 3, 4, 10, 15, 16}) due("NODE " + n, x.told(n, what), BAD);
    }
    for (int what : new int[] {-1, 16, MIN, MAX}) due("what " + what, x.told(0, what), BAD);
    due("what 0", x.told(0, 0), 5);
    due("what 15", x.told(0, 15), NONE);
  }
}
