import java.util.Arrays;

/**
 * Types with what is below and above them: programs as trees of NODES, typed by bounds on VARIABLES,
 * and worked. The words in capitals are those of the project's document.
 */
public final class PolarTypes {
  public static final int BAD = -1, FULL = -2, STATE = -4, SPENT = -6, FAULT = -7, NONE = -9;

  /** The KINDS of NODES. */
  private static final int NUMBER = 0, TRUTH = 1, NAME = 2, FUNCTION = 3, APPLY = 4, RECORD = 5;
  private static final int FIELD = 6, LET = 7, REC = 8, PICK = 9, SUM = 10, LESS = 11;

  /** The sorts of TYPES, and but for the last one of VALUES. */
  private static final int A_WHOLE = 0, A_TRUTH = 1, A_FUNCTION = 2, A_RECORD = 3, A_VARIABLE = 4;

  /** The sides of a VARIABLE. What goes out is told by what is BELOW, what goes in by what is ABOVE. */
  private static final int BELOW = 0, ABOVE = 1;
  private static final int OUT = BELOW, IN = ABOVE;

  private static final int LETTERS = 26;
  private static final int DEEPEST = 60;
  private static final int GOOD = 0;
  private static final int STUCK = -3;

  private static final int TOLD_ROWS = 16, TOLD_PARTS = 4, TOLD_LABELS = 10;
  private static final int MOST_WORK = 300;

  private final Tree tree = new Tree();
  private final Typing typing = new Typing(tree);
  private final Working working = new Working(tree);
  private final Signs boundSigns = new Signs(Teller.MOST_SIGNS);

  public PolarTypes() {
  }

  // ---- 1 nodes

  public int node(int kind, int v, int a, int b, int c) {
    if (!Tree.isKind(kind) || !Tree.isFitting(kind, v)) return BAD;
    if (!tree.canBeParts(Tree.partsOfKind(kind), a, b, c)) return BAD;
    if (tree.isFull()) return FULL;
    return tree.addNode(kind, v, a, b, c);
  }

  public int field(int record, int x, int part) {
    if (!tree.isNode(record) || !Tree.isLetter(x) || !tree.isFree(part)) return BAD;
    // A free part holds the record only if it is the top of the record's own tree.
    if (tree.topOf(record) == part) return BAD;
    if (tree.kindOf(record) != RECORD || tree.hasLabel(record, x)) return STATE;
    if (tree.partCount(record) >= Tree.MOST_PARTS) return FULL;
    tree.addPart(record, x, part);
    typing.forget();
    return tree.partCount(record);
  }

  public int told(int node, int what) {
    if (!tree.isNode(node) || what < 0 || what >= TOLD_ROWS) return BAD;
    switch (what) {
      case 0: return tree.kindOf(node);
      case 1: return tree.markOf(node);
      case 2: return tree.partCount(node);
      case 3: return tree.ownerOf(node);
      default: break;
    }
    if (what < TOLD_LABELS) return tree.partOf(node, what - TOLD_PARTS);
    return tree.labelOf(node, what - TOLD_LABELS);
  }

  // ---- 2 types

  public int type(int node) {
    return tree.isNode(node) ? typing.typeProgram(node) : BAD;
  }

  public int where() {
    return typing.place;
  }

  public int steps() {
    return typing.asked;
  }

  public int sign(int i) {
    return typing.outcome == GOOD ? typing.signs.at(i) : STATE;
  }

  public int variable(int v, int what) {
    int t = typing.types.ofVariable(v);
    if (t == NONE) return BAD;
    switch (what) {
      case 0: return typing.types.levelOf(t);
      case 1: return typing.types.boundsOf(t, BELOW).size;
      case 2: return typing.types.boundsOf(t, ABOVE).size;
      default: return BAD;
    }
  }

  public int bound(int v, boolean above, int i, int j) {
    int t = typing.types.ofVariable(v);
    if (t == NONE) return BAD;
    int side = above ? ABOVE : BELOW;
    Row bounds = typing.types.boundsOf(t, side);
    if (!bounds.holds(i)) return NONE;
    typing.teller.tell(bounds.get(i), side, boundSigns);
    return boundSigns.at(j);
  }

  // ---- 4 working

  public int work(int node, int n) {
    if (!tree.isNode(node) || n < 0 || n > MOST_WORK) return BAD;
    return working.workProgram(node, n);
  }

  public int value(int i) {
    return working.outcome == Working.HAS_VALUE ? working.signs.at(i) : NONE;
  }

  public int worked() {
    return working.begun;
  }

  public int stuck() {
    return working.place;
  }

  public int count(int what) {
    switch (what) {
      case 0: return tree.size();
      case 1: return typing.types.variableCount();
      case 2: return tree.freeCount();
      case 3: return working.outcome;
      default: return BAD;
    }
  }

  public long digest() {
    long h = 17;
    int nodes = tree.size();
    for (int node = 0; node < nodes; node++) {
      for (int what = 0; what < TOLD_ROWS; what++) h = 31 * h + told(node, what);
    }
    int variables = typing.types.variableCount();
    for (int v = 0; v < variables; v++) {
      for (int what = 0; what < 3; what++) h = 31 * h + variable(v, what);
    }
    return h;
  }

  /** A row of numbers that grows. It is emptied and used again, for rows made anew would fill the room. */
  private static final class Row {
    private int[] items = new int[4];
    int size;

    Row() {
    }

    /** A row of a length, each place NONE. */
    Row(int length) {
      for (int i = 0; i < length; i++) add(NONE);
    }

    boolean holds(int i) {
      return i >= 0 && i < size;
    }

    int get(int i) {
      return i >= 0 && i < size ? items[i] : NONE;
    }

    void set(int i, int item) {
      if (i >= 0 && i < size) items[i] = item;
    }

    void add(int item) {
      if (size >= items.length) items = Arrays.copyOf(items, 2 * size + 4);
      items[size] = item;
      size++;
    }

    void cutTo(int length) {
      if (length >= 0 && length < size) size = length;
    }
  }

  /** The signs in which something is told, as many as are kept. */
  private static final class Signs {
    private static final long GREATEST_POWER = 1000000000L;

    private final byte[] kept;
    private int size;

    Signs(int most) {
      kept = new byte[Math.max(most, 0)];
    }

    void clear() {
      size = 0;
    }

    boolean isFull() {
      return size >= kept.length;
    }

    void put(char c) {
      if (size >= kept.length) return;
      kept[size] = (byte) c;
      size++;
    }

    void putLetter(int x) {
      put((char) ('a' + x));
    }

    void putFigures(int n) {
      long rest = n;
      if (rest < 0) {
        put('-');
        rest = -rest;
      }
      boolean begun = false;
      for (long power = GREATEST_POWER; power >= 1; power /= 10) {
        long figure = rest / power % 10;
        begun = begun || figure != 0 || power == 1;
        if (begun) put((char) ('0' + figure));
      }
    }

    int at(int i) {
      if (i == -1) return size;
      return i >= 0 && i < size ? kept[i] : NONE;
    }
  }

  /** The NODES: of each its KIND, its v, its parts and what it is a part of. */
  private static final class Tree {
    static final int MOST_NODES = 120;
    static final int MOST_PARTS = 6;
    private static final int[] PARTS_OF_KIND = {0, 0, 0, 1, 2, 0, 1, 2, 2, 3, 2, 2};

    private final Row kinds = new Row();
    private final Row marks = new Row();
    private final Row owners = new Row();
    private final Row partCounts = new Row();
    private final Row parts = new Row();
    private final Row labels = new Row();

    static boolean isKind(int kind) {
      return kind >= 0 && kind < PARTS_OF_KIND.length;
    }

    static boolean isLetter(int x) {
      return x >= 0 && x < LETTERS;
    }

    static int partsOfKind(int kind) {
      return isKind(kind) ? PARTS_OF_KIND[kind] : 0;
    }

    static boolean hasLetter(int kind) {
      return kind == NAME || kind == FUNCTION || kind == FIELD || kind == LET || kind == REC;
    }

    static boolean isFitting(int kind, int v) {
      if (kind == TRUTH) return v == 0 || v == 1;
      return !hasLetter(kind) || isLetter(v);
    }

    int size() {
      return kinds.size;
    }

    boolean isFull() {
      return kinds.size >= MOST_NODES;
    }

    boolean isNode(int node) {
      return kinds.holds(node);
    }

    boolean isFree(int node) {
      return isNode(node) && owners.get(node) == NONE;
    }

    boolean canBeParts(int many, int a, int b, int c) {
      if (many >= 1 && !isFree(a)) return false;
      if (many >= 2 && (!isFree(b) || b == a)) return false;
      return many < 3 || isFree(c) && c != a && c != b;
    }

    int addNode(int kind, int v, int a, int b, int c) {
      int node = kinds.size;
      boolean hasMark = kind == NUMBER || kind == TRUTH || hasLetter(kind);
      kinds.add(kind);
      marks.add(hasMark ? v : NONE);
      owners.add(NONE);
      partCounts.add(0);
      for (int i = 0; i < MOST_PARTS; i++) {
        parts.add(NONE);
        labels.add(NONE);
      }
      int many = partsOfKind(kind);
      if (many >= 1) addPart(node, NONE, a);
      if (many >= 2) addPart(node, NONE, b);
      if (many >= 3) addPart(node, NONE, c);
      return node;
    }

    void addPart(int owner, int label, int part) {
      int many = partCount(owner);
      if (many >= MOST_PARTS) return;
      parts.set(owner * MOST_PARTS + many, part);
      labels.set(owner * MOST_PARTS + many, label);
      partCounts.set(owner, many + 1);
      owners.set(part, owner);
    }

    int kindOf(int node) {
      return kinds.get(node);
    }

    int markOf(int node) {
      return marks.get(node);
    }

    int ownerOf(int node) {
      return owners.get(node);
    }

    int partCount(int node) {
      return Math.max(partCounts.get(node), 0);
    }

    int partOf(int node, int i) {
      return i >= 0 && i < partCounts.get(node) ? parts.get(node * MOST_PARTS + i) : NONE;
    }

    int labelOf(int node, int i) {
      return i >= 0 && i < partCounts.get(node) ? labels.get(node * MOST_PARTS + i) : NONE;
    }

    boolean hasLabel(int node, int x) {
      return placeOf(node, x) != NONE;
    }

    /** At which place a RECORD has a label. */
    int placeOf(int node, int x) {
      int many = partCount(node);
      for (int i = 0; i < many; i++) {
        if (labelOf(node, i) == x) return i;
      }
      return NONE;
    }

    int topOf(int node) {
      int top = node;
      for (int up = 0; up < MOST_NODES && ownerOf(top) != NONE; up++) top = ownerOf(top);
      return top;
    }

    int freeCount() {
      int free = 0;
      int nodes = size();
      for (int node = 0; node < nodes; node++) {
        if (isFree(node)) free++;
      }
      return free;
    }

    /** The NODE that binds a NAME, looked for no further up than a top. */
    int binderOf(int name, int top) {
      int part = name;
      for (int up = 0; up < MOST_NODES && part != top && part != NONE; up++) {
        int owner = ownerOf(part);
        if (markOf(owner) == markOf(name) && bindsIn(owner, part)) return owner;
        part = owner;
      }
      return NONE;
    }

    private boolean bindsIn(int owner, int part) {
      int kind = kindOf(owner);
      return kind == FUNCTION || kind == REC || kind == LET && partOf(owner, 1) == part;
    }
  }

  /** The TYPES of one type(), by number: WHOLE and TRUTH, then those that came, in their order. */
  private static final class Types {
    static final int WHOLE = 0, TRUTHS = 1;
    static final int MOST_VARIABLES = 150;
    private static final int MOST_TYPES = 600 + 2;

    private final Row sorts = new Row();
    private final Row levels = new Row();
    /** A FUNCTION's parts; a RECORD's first field and how many it has; a VARIABLE's number. */
    private final Row firsts = new Row();
    private final Row seconds = new Row();
    private final Row fieldLabels = new Row();
    private final Row fieldParts = new Row();
    /** The fields of RECORDS that are not whole yet, one within another. */
    private final Row stagedLabels = new Row();
    private final Row stagedParts = new Row();
    private final Row variables = new Row();
    private final Row[] bounds = new Row[2 * MOST_VARIABLES];
    private final Row noBounds = new Row();
    /** What was asked: by the lower TYPE the last place, at each place the higher TYPE and the place ahead. */
    private final Row lastAsked = new Row();
    private final Row askedHighs = new Row();
    private final Row askedAhead = new Row();

    Types() {
      startAnew();
    }

    void startAnew() {
      sorts.cutTo(0);
      levels.cutTo(0);
      firsts.cutTo(0);
      seconds.cutTo(0);
      fieldLabels.cutTo(0);
      fieldParts.cutTo(0);
      stagedLabels.cutTo(0);
      stagedParts.cutTo(0);
      variables.cutTo(0);
      lastAsked.cutTo(0);
      askedHighs.cutTo(0);
      askedAhead.cutTo(0);
      addType(A_WHOLE, 0, NONE, NONE);
      addType(A_TRUTH, 0, NONE, NONE);
    }

    private int addType(int sort, int level, int first, int second) {
      int t = sorts.size;
      if (t >= MOST_TYPES) return SPENT;
      sorts.add(sort);
      levels.add(level);
      firsts.add(first);
      seconds.add(second);
      lastAsked.add(NONE);
      return t;
    }

    int addVariable(int level) {
      int number = variables.size;
      if (number >= MOST_VARIABLES) return SPENT;
      int t = addType(A_VARIABLE, level, number, NONE);
      if (t < 0) return t;
      variables.add(t);
      emptyBounds(2 * number + BELOW);
      emptyBounds(2 * number + ABOVE);
      return t;
    }

    private void emptyBounds(int slot) {
      if (slot < 0 || slot >= bounds.length) return;
      Row row = bounds[slot];
      if (row == null) {
        bounds[slot] = new Row();
      } else {
        row.cutTo(0);
      }
    }

    int addFunction(int first, int second) {
      return addType(A_FUNCTION, Math.max(levelOf(first), levelOf(second)), first, second);
    }

    int stagedCount() {
      return stagedParts.size;
    }

    void stage(int label, int part) {
      stagedLabels.add(label);
      stagedParts.add(part);
    }

    /** A RECORD of the fields staged from a place on. */
    int addRecord(int from) {
      int level = 0;
      int end = stagedParts.size;
      for (int i = from; i < end; i++) level = Math.max(level, levelOf(stagedParts.get(i)));
      int t = addType(A_RECORD, level, fieldParts.size, end - from);
      if (t < 0) return t;
      for (int i = from; i < end; i++) {
        fieldLabels.add(stagedLabels.get(i));
        fieldParts.add(stagedParts.get(i));
      }
      stagedLabels.cutTo(from);
      stagedParts.cutTo(from);
      return t;
    }

    int sortOf(int t) {
      return sorts.get(t);
    }

    int levelOf(int t) {
      return levels.get(t);
    }

    int firstOf(int t) {
      return firsts.get(t);
    }

    int secondOf(int t) {
      return seconds.get(t);
    }

    int numberOf(int t) {
      return sorts.get(t) == A_VARIABLE ? firsts.get(t) : NONE;
    }

    /** The row of TYPES on one side of a VARIABLE. */
    Row boundsOf(int t, int side) {
      int slot = 2 * firsts.get(t) + side;
      if (sorts.get(t) != A_VARIABLE || slot < 0 || slot >= bounds.length) return noBounds;
      Row row = bounds[slot];
      return row == null ? noBounds : row;
    }

    int fieldCount(int t) {
      return sorts.get(t) == A_RECORD ? seconds.get(t) : 0;
    }

    int labelAt(int t, int i) {
      return fieldLabels.get(firsts.get(t) + i);
    }

    int partAt(int t, int i) {
      return fieldParts.get(firsts.get(t) + i);
    }

    int partBy(int t, int label) {
      int many = fieldCount(t);
      for (int i = 0; i < many; i++) {
        if (labelAt(t, i) == label) return partAt(t, i);
      }
      return NONE;
    }

    int variableCount() {
      return variables.size;
    }

    int ofVariable(int v) {
      return variables.get(v);
    }

    /** Whether a UNDER b was asked before; from now on it was. */
    boolean wasAsked(int a, int b) {
      int many = askedHighs.size;
      int last = lastAsked.get(a);
      int place = last;
      for (int i = 0; i < many && place != NONE; i++) {
        if (askedHighs.get(place) == b) return true;
        place = askedAhead.get(place);
      }
      askedHighs.add(b);
      askedAhead.add(last);
      lastAsked.set(a, many);
      return false;
    }
  }

  /** Tells TYPES by signs. What is open waits in rows, for a TYPE may be deeper than calls should go. */
  private static final class Teller {
    static final int MOST_SIGNS = 400;
    private static final int MOST_TURNS = 1000000;

    private final Types types;
    private final Row openTypes = new Row();
    private final Row openWays = new Row();
    private final Row openPlaces = new Row();
    private final Row isOpen = new Row(2 * Types.MOST_VARIABLES);
    private Signs signs = new Signs(0);

    Teller(Types types) {
      this.types = types;
    }

    void tell(int t, int way, Signs into) {
      signs = into;
      signs.clear();
      begin(t, way);
      for (int turn = 0; turn < MOST_TURNS && openTypes.size > 0; turn++) {
        if (signs.isFull()) {
          close();
        } else {
          goOn();
        }
      }
    }

    private void begin(int t, int way) {
      switch (types.sortOf(t)) {
        case A_WHOLE: signs.put('w'); return;
        case A_TRUTH: signs.put('t'); return;
        case A_FUNCTION: signs.put('>'); break;
        case A_RECORD: signs.put('{'); break;
        default:
          int slot = 2 * types.numberOf(t) + way;
          if (types.boundsOf(t, way).size == 0 || isOpen.get(slot) == 1) {
            putNumber(t);
            return;
          }
          isOpen.set(slot, 1);
          signs.put(way == OUT ? '|' : '&');
          putNumber(t);
          break;
      }
      openTypes.add(t);
      openWays.add(way);
      openPlaces.add(0);
    }

    private void putNumber(int t) {
      signs.put('\'');
      signs.putFigures(types.numberOf(t));
    }

    /** The next part of the innermost TYPE that is open, or its end. */
    private void goOn() {
      int last = openTypes.size - 1;
      int t = openTypes.get(last);
      int way = openWays.get(last);
      int place = openPlaces.get(last);
      int sort = types.sortOf(t);
      openPlaces.set(last, place + 1);
      if (sort == A_FUNCTION && place == 0) {
        begin(types.firstOf(t), way == OUT ? IN : OUT);
      } else if (sort == A_FUNCTION && place == 1) {
        begin(types.secondOf(t), way);
      } else if (sort == A_RECORD && place < types.fieldCount(t)) {
        signs.putLetter(types.labelAt(t, place));
        begin(types.partAt(t, place), way);
      } else if (sort == A_VARIABLE && place < types.boundsOf(t, way).size) {
        begin(types.boundsOf(t, way).get(place), way);
      } else {
        if (sort == A_RECORD) signs.put('}');
        if (sort == A_VARIABLE) signs.put('.');
        close();
      }
    }

    private void close() {
      int last = openTypes.size - 1;
      int t = openTypes.get(last);
      if (types.sortOf(t) == A_VARIABLE) isOpen.set(2 * types.numberOf(t) + openWays.get(last), NONE);
      openTypes.cutTo(last);
      openWays.cutTo(last);
      openPlaces.cutTo(last);
    }
  }

  /**
   * The latest type(): TYPING, and what it asks: UNDER, LIFTED and MADE ANEW. Each answers a TYPE or GOOD, or what
   * is met, which is below 0. A level of TYPING goes through two methods, one of the others through one, so that
   * the calls that stand open stay few.
   */
  private static final class Typing {
    private static final int MOST_STEPS = 1500;
    private static final int NO_SCHEME = -1;
    /** The ways to copy. */
    private static final int UP = 0, DOWN = 1, ANEW = 2;
    /** What is due when a UNDER b is asked. */
    private static final int PLAIN = 0, FUNCTIONS = 1, RECORDS = 2, COMES_ABOVE = 3, COMES_BELOW = 4;
    private static final int LIFT_DOWN = 5, LIFT_UP = 6, NO_WAY = 7;

    private final Tree tree;
    final Types types = new Types();
    final Teller teller = new Teller(types);
    final Signs signs = new Signs(Teller.MOST_SIGNS);
    /** Of each NODE that binds: what it gives, and the LEVEL if that is a SCHEME. */
    private final Row givens = new Row(Tree.MOST_NODES);
    private final Row schemes = new Row(Tree.MOST_NODES);
    /** Of each VARIABLE and way the copy, and the time of asking at which it was made. */
    private final Row copies = new Row(2 * Types.MOST_VARIABLES);
    private final Row copyTimes = new Row(2 * Types.MOST_VARIABLES);
    private int time;
    private int copyAbove;
    private int copyLevel;
    private int top = NONE;
    int asked;
    int place = NONE;
    int outcome = STATE;

    Typing(Tree tree) {
      this.tree = tree;
    }

    void forget() {
      types.startAnew();
      asked = 0;
      place = NONE;
      outcome = STATE;
    }

    int typeProgram(int node) {
      forget();
      top = node;
      int result = typed(node, 0, 1);
      outcome = result < 0 ? result : GOOD;
      if (outcome != GOOD) return outcome;
      teller.tell(result, OUT, signs);
      return types.variableCount();
    }

    // ---- TYPING

    private int typed(int node, int level, int depth) {
      int met = SPENT;
      if (depth <= DEEPEST) {
        switch (tree.kindOf(node)) {
          case NUMBER: met = Types.WHOLE; break;
          case TRUTH: met = Types.TRUTHS; break;
          case NAME: met = typedName(node, level); break;
          case FUNCTION: met = typedFunction(node, level, depth); break;
          case APPLY: met = typedApply(node, level, depth); break;
          case RECORD: met = typedRecord(node, level, depth); break;
          case FIELD: met = typedField(node, level, depth); break;
          case LET: met = typedLet(node, level, depth); break;
          case REC: met = typedRec(node, level, depth); break;
          case PICK: met = typedPick(node, level, depth); break;
          default: met = typedWholes(node, level, depth); break;
        }
      }
      // The innermost NODE comes back first: it is the one that asked.
      if (met < 0 && place == NONE) place = node;
      return met;
    }

    private int typedName(int node, int level) {
      int binder = tree.binderOf(node, top);
      if (binder == NONE) return FAULT;
      int given = givens.get(binder);
      int scheme = schemes.get(binder);
      if (scheme == NO_SCHEME) return given;
      startCopying(scheme, level);
      return copied(given, ANEW, 1);
    }

    private void gives(int node, int t, int scheme) {
      givens.set(node, t);
      schemes.set(node, scheme);
    }

    private int typedFunction(int node, int level, int depth) {
      int variable = types.addVariable(level);
      if (variable < 0) return variable;
      gives(node, variable, NO_SCHEME);
      int body = typed(tree.partOf(node, 0), level, depth + 1);
      return body < 0 ? body : types.addFunction(variable, body);
    }

    private int typedApply(int node, int level, int depth) {
      int function = typed(tree.partOf(node, 0), level, depth + 1);
      if (function < 0) return function;
      int given = typed(tree.partOf(node, 1), level, depth + 1);
      if (given < 0) return given;
      int result = types.addVariable(level);
      if (result < 0) return result;
      int wanted = types.addFunction(given, result);
      int met = wanted < 0 ? wanted : under(function, wanted, 1);
      return met < 0 ? met : result;
    }

    private int typedRecord(int node, int level, int depth) {
      int from = types.stagedCount();
      int many = tree.partCount(node);
      for (int i = 0; i < many; i++) {
        int part = typed(tree.partOf(node, i), level, depth + 1);
        if (part < 0) return part;
        types.stage(tree.labelOf(node, i), part);
      }
      return types.addRecord(from);
    }

    private int typedField(int node, int level, int depth) {
      int record = typed(tree.partOf(node, 0), level, depth + 1);
      if (record < 0) return record;
      int result = types.addVariable(level);
      if (result < 0) return result;
      int from = types.stagedCount();
      types.stage(tree.markOf(node), result);
      int wanted = types.addRecord(from);
      int met = wanted < 0 ? wanted : under(record, wanted, 1);
      return met < 0 ? met : result;
    }

    private int typedLet(int node, int level, int depth) {
      int first = typed(tree.partOf(node, 0), level + 1, depth + 1);
      if (first < 0) return first;
      gives(node, first, level);
      return typed(tree.partOf(node, 1), level, depth + 1);
    }

    private int typedRec(int node, int level, int depth) {
      int variable = types.addVariable(level + 1);
      if (variable < 0) return variable;
      gives(node, variable, NO_SCHEME);
      int first = typed(tree.partOf(node, 0), level + 1, depth + 1);
      int met = first < 0 ? first : under(first, variable, 1);
      if (met < 0) return met;
      gives(node, variable, level);
      return typed(tree.partOf(node, 1), level, depth + 1);
    }

    private int typedPick(int node, int level, int depth) {
      int truth = typed(tree.partOf(node, 0), level, depth + 1);
      int met = truth < 0 ? truth : under(truth, Types.TRUTHS, 1);
      if (met < 0) return met;
      int result = types.addVariable(level);
      if (result < 0) return result;
      for (int i = 1; i <= 2; i++) {
        int part = typed(tree.partOf(node, i), level, depth + 1);
        met = part < 0 ? part : under(part, result, 1);
        if (met < 0) return met;
      }
      return result;
    }

    private int typedWholes(int node, int level, int depth) {
      for (int i = 0; i <= 1; i++) {
        int part = typed(tree.partOf(node, i), level, depth + 1);
        int met = part < 0 ? part : under(part, Types.WHOLE, 1);
        if (met < 0) return met;
      }
      return tree.kindOf(node) == SUM ? Types.WHOLE : Types.TRUTHS;
    }

    // ---- UNDER

    private int under(int a, int b, int depth) {
      asked++;
      if (asked > MOST_STEPS || depth > DEEPEST) return SPENT;
      if (types.wasAsked(a, b)) return GOOD;
      int met = GOOD;
      switch (whatIsDue(a, b)) {
        case PLAIN:
          return GOOD;
        case FUNCTIONS:
          met = under(types.firstOf(b), types.firstOf(a), depth + 1);
          return met < 0 ? met : under(types.secondOf(a), types.secondOf(b), depth + 1);
        case RECORDS: {
          int many = types.fieldCount(b);
          for (int i = 0; i < many && met == GOOD; i++) {
            int part = types.partBy(a, types.labelAt(b, i));
            met = part == NONE ? FAULT : under(part, types.partAt(b, i), depth + 1);
          }
          return met;
        }
        case COMES_ABOVE: {
          types.boundsOf(a, ABOVE).add(b);
          Row lows = types.boundsOf(a, BELOW);
          // What comes below a while this goes on is put under b by its own coming.
          int many = lows.size;
          for (int i = 0; i < many && met == GOOD; i++) met = under(lows.get(i), b, depth + 1);
          return met;
        }
        case COMES_BELOW: {
          types.boundsOf(b, BELOW).add(a);
          Row highs = types.boundsOf(b, ABOVE);
          int many = highs.size;
          for (int i = 0; i < many && met == GOOD; i++) met = under(a, highs.get(i), depth + 1);
          return met;
        }
        case LIFT_DOWN: {
          startCopying(types.levelOf(a), types.levelOf(a));
          int low = copied(b, DOWN, 1);
          return low < 0 ? low : under(a, low, depth + 1);
        }
        case LIFT_UP: {
          startCopying(types.levelOf(b), types.levelOf(b));
          int high = copied(a, UP, 1);
          return high < 0 ? high : under(high, b, depth + 1);
        }
        default:
          return FAULT;
      }
    }

    private int whatIsDue(int a, int b) {
      int sortA = types.sortOf(a);
      int sortB = types.sortOf(b);
      if (sortA == A_VARIABLE && types.levelOf(b) <= types.levelOf(a)) return COMES_ABOVE;
      if (sortB == A_VARIABLE && types.levelOf(a) <= types.levelOf(b)) return COMES_BELOW;
      if (sortA == A_VARIABLE) return LIFT_DOWN;
      if (sortB == A_VARIABLE) return LIFT_UP;
      if (sortA != sortB) return NO_WAY;
      if (sortA == A_FUNCTION) return FUNCTIONS;
      return sortA == A_RECORD ? RECORDS : PLAIN;
    }

    // ---- LIFTED, MADE ANEW

    /** One time of asking: what is above a LEVEL becomes new, its VARIABLES at a LEVEL. */
    private void startCopying(int above, int level) {
      time++;
      copyAbove = above;
      copyLevel = level;
    }

    private int copied(int t, int way, int depth) {
      if (depth > DEEPEST) return SPENT;
      if (types.levelOf(t) <= copyAbove) return t;
      int sort = types.sortOf(t);
      if (sort == A_FUNCTION) {
        int first = copied(types.firstOf(t), otherWay(way), depth + 1);
        int second = first < 0 ? first : copied(types.secondOf(t), way, depth + 1);
        return second < 0 ? second : types.addFunction(first, second);
      }
      if (sort == A_RECORD) {
        int from = types.stagedCount();
        int many = types.fieldCount(t);
        for (int i = 0; i < many; i++) {
          int part = copied(types.partAt(t, i), way, depth + 1);
          if (part < 0) return part;
          types.stage(types.labelAt(t, i), part);
        }
        return types.addRecord(from);
      }
      int slot = 2 * types.numberOf(t) + (way == DOWN ? 1 : 0);
      if (copyTimes.get(slot) == time) return copies.get(slot);
      int copy = types.addVariable(copyLevel);
      if (copy < 0) return copy;
      copies.set(slot, copy);
      copyTimes.set(slot, time);
      if (way == UP) types.boundsOf(t, ABOVE).add(copy);
      if (way == DOWN) types.boundsOf(t, BELOW).add(copy);
      for (int side = BELOW; side <= ABOVE; side++) {
        if (!isTaken(side, way)) continue;
        Row from = types.boundsOf(t, side);
        // Lifted the other way within this, t may get more on this side: they do not belong to the copy.
        int ahead = from.size;
        for (int i = 0; i < ahead; i++) {
          int bound = copied(from.get(i), way, depth + 1);
          if (bound < 0) return bound;
          types.boundsOf(copy, side).add(bound);
        }
      }
      return copy;
    }

    private static int otherWay(int way) {
      if (way == ANEW) return ANEW;
      return way == UP ? DOWN : UP;
    }

    private static boolean isTaken(int side, int way) {
      return way == ANEW || side == (way == UP ? BELOW : ABOVE);
    }
  }

  /** The latest work(). */
  private static final class Working {
    static final int HAS_VALUE = 0;
    private static final int IS_STUCK = 1, IS_SPENT = 2;
    private static final int MOST_SIGNS = 200;

    private final Tree tree;
    final Signs signs = new Signs(MOST_SIGNS);
    /** Of each VALUE its sort; its number, FUNCTION's NODE or RECORD's NODE; what it sees, or its first field. */
    private final Row sorts = new Row();
    private final Row cores = new Row();
    private final Row links = new Row();
    private final Row fieldValues = new Row();
    /** What is seen: of each sight its letter, its VALUE or the REC that it is of, and the next sight outwards. */
    private final Row sightLetters = new Row();
    private final Row sightValues = new Row();
    private final Row sightRecs = new Row();
    private final Row sightNexts = new Row();
    private int allowed;
    int begun;
    int place = NONE;
    int outcome = NONE;

    Working(Tree tree) {
      this.tree = tree;
    }

    int workProgram(int node, int n) {
      startAnew(n);
      int value = run(node, NONE, 1);
      if (value >= 0) {
        outcome = HAS_VALUE;
        putValue(value, 1);
      } else {
        outcome = value == SPENT ? IS_SPENT : IS_STUCK;
      }
      return outcome;
    }

    private void startAnew(int n) {
      sorts.cutTo(0);
      cores.cutTo(0);
      links.cutTo(0);
      fieldValues.cutTo(0);
      sightLetters.cutTo(0);
      sightValues.cutTo(0);
      sightRecs.cutTo(0);
      sightNexts.cutTo(0);
      signs.clear();
      allowed = n;
      begun = 0;
      place = NONE;
    }

    private int addValue(int sort, int core, int link) {
      sorts.add(sort);
      cores.add(core);
      links.add(link);
      return sorts.size - 1;
    }

    private int addSight(int letter, int value, int rec, int next) {
      sightLetters.add(letter);
      sightValues.add(value);
      sightRecs.add(rec);
      sightNexts.add(next);
      return sightLetters.size - 1;
    }

    private int stuckAt(int node) {
      place = node;
      return STUCK;
    }

    /** The VALUE of a NODE that sees a sight; or SPENT or STUCK. */
    private int run(int node, int sight, int depth) {
      if (begun >= allowed || depth > DEEPEST) {
        place = node;
        return SPENT;
      }
      begun++;
      switch (tree.kindOf(node)) {
        case NUMBER: return addValue(A_WHOLE, tree.markOf(node), NONE);
        case TRUTH: return addValue(A_TRUTH, tree.markOf(node), NONE);
        case NAME: return runName(node, sight, depth);
        case FUNCTION: return addValue(A_FUNCTION, node, sight);
        case APPLY: return runApply(node, sight, depth);
        case RECORD: return runRecord(node, sight, depth);
        case FIELD: return runField(node, sight, depth);
        case LET: return runLet(node, sight, depth);
        case REC: return runRec(node, sight, depth);
        case PICK: return runPick(node, sight, depth);
        default: return runWholes(node, sight, depth);
      }
    }

    private int runName(int node, int sight, int depth) {
      int seen = seenBy(tree.markOf(node), sight);
      if (seen == NONE) return stuckAt(node);
      int rec = sightRecs.get(seen);
      if (rec == NONE) return sightValues.get(seen);
      return run(tree.partOf(rec, 0), seen, depth + 1);
    }

    private int seenBy(int letter, int sight) {
      int seen = sight;
      for (int i = 0; i < Tree.MOST_NODES && seen != NONE; i++) {
        if (sightLetters.get(seen) == letter) return seen;
        seen = sightNexts.get(seen);
      }
      return NONE;
    }

    private int runApply(int node, int sight, int depth) {
      int function = run(tree.partOf(node, 0), sight, depth + 1);
      if (function < 0) return function;
      int given = run(tree.partOf(node, 1), sight, depth + 1);
      if (given < 0) return given;
      if (sorts.get(function) != A_FUNCTION) return stuckAt(node);
      int made = cores.get(function);
      int inner = addSight(tree.markOf(made), given, NONE, links.get(function));
      return run(tree.partOf(made, 0), inner, depth + 1);
    }

    private int runRecord(int node, int sight, int depth) {
      int from = fieldValues.size;
      int many = tree.partCount(node);
      for (int i = 0; i < many; i++) fieldValues.add(NONE);
      for (int i = 0; i < many; i++) {
        int value = run(tree.partOf(node, i), sight, depth + 1);
        if (value < 0) return value;
        fieldValues.set(from + i, value);
      }
      return addValue(A_RECORD, node, from);
    }

    private int runField(int node, int sight, int depth) {
      int record = run(tree.partOf(node, 0), sight, depth + 1);
      if (record < 0) return record;
      if (sorts.get(record) != A_RECORD) return stuckAt(node);
      int at = tree.placeOf(cores.get(record), tree.markOf(node));
      return at == NONE ? stuckAt(node) : fieldValues.get(links.get(record) + at);
    }

    private int runLet(int node, int sight, int depth) {
      int value = run(tree.partOf(node, 0), sight, depth + 1);
      if (value < 0) return value;
      return run(tree.partOf(node, 1), addSight(tree.markOf(node), value, NONE, sight), depth + 1);
    }

    private int runRec(int node, int sight, int depth) {
      return run(tree.partOf(node, 1), addSight(tree.markOf(node), NONE, node, sight), depth + 1);
    }

    private int runPick(int node, int sight, int depth) {
      int truth = run(tree.partOf(node, 0), sight, depth + 1);
      if (truth < 0) return truth;
      if (sorts.get(truth) != A_TRUTH) return stuckAt(node);
      return run(tree.partOf(node, cores.get(truth) == 1 ? 1 : 2), sight, depth + 1);
    }

    private int runWholes(int node, int sight, int depth) {
      int first = run(tree.partOf(node, 0), sight, depth + 1);
      if (first < 0) return first;
      int second = run(tree.partOf(node, 1), sight, depth + 1);
      if (second < 0) return second;
      if (sorts.get(first) != A_WHOLE || sorts.get(second) != A_WHOLE) return stuckAt(node);
      int a = cores.get(first);
      int b = cores.get(second);
      if (tree.kindOf(node) == SUM) return addValue(A_WHOLE, a + b, NONE);
      return addValue(A_TRUTH, a < b ? 1 : 0, NONE);
    }

    /** Records put two signs each ahead of what is within them, so the signs kept bound the depth. */
    private void putValue(int value, int depth) {
      if (signs.isFull() || depth > MOST_SIGNS) return;
      int core = cores.get(value);
      switch (sorts.get(value)) {
        case A_WHOLE: signs.putFigures(core); return;
        case A_TRUTH: signs.put(core == 1 ? 'y' : 'n'); return;
        case A_FUNCTION: signs.put('f'); return;
        default: break;
      }
      signs.put('{');
      int many = tree.partCount(core);
      for (int i = 0; i < many && !signs.isFull(); i++) {
        signs.putLetter(tree.labelOf(core, i));
        putValue(fieldValues.get(links.get(value) + i), depth + 1);
      }
      signs.put('}');
    }
  }
}
