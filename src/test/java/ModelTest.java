import java.util.ArrayList;
import java.util.List;
import java.util.Map;
import java.util.TreeMap;

/** Programs made by a fixed row of numbers, typed and worked by the program and by the model. */
public final class ModelTest {
  private static final int PROGRAMS = 5000;

  private final Map<String, Integer> met = new TreeMap<>();
  private long seed;
  private Both both;
  private int left;
  private int names;

  public static void main(String[] args) {
    int programs = args.length > 0 ? Integer.parseInt(args[0]) : PROGRAMS;
    long first = args.length > 1 ? Long.parseLong(args[1]) : 1;
    ModelTest test = new ModelTest();
    int wrong = 0;
    for (long i = first; i < first + programs; i++) {
      String told = test.oneProgram(i);
      if (told == null) continue;
      wrong++;
      if (wrong <= 5) System.out.println("program " + i + ": " + told);
    }
    System.out.println("ModelTest met " + test.met);
    for (String due : new String[] {"type good", "type clash", "type label", "type unbound", "type steps",
        "type variables", "type types", "type typing deep", "type under deep", "type lifted deep", "type anew deep",
        "lifts up", "lifts down", "work 0", "work 1", "work 2"}) {
      if (!test.met.containsKey(due)) {
        System.out.println("never met: " + due);
        wrong++;
      }
    }
    System.out.println("ModelTest: " + (programs - Math.min(wrong, programs)) + " passed, " + wrong + " failed");
    if (wrong != 0) System.exit(1);
  }

  private int next(int bound) {
    seed = seed * 6364136223846793005L + 1442695040888963407L;
    return (int) ((seed >>> 33) % bound);
  }

  private boolean chance(int percent) {
    return next(100) < percent;
  }

  private String oneProgram(long number) {
    seed = number * 7919;
    for (int i = 0; i < 3; i++) next(2);
    both = new Both();
    left = 5 + next(115);
    names = 2 + next(6);
    List<Integer> tops = new ArrayList<>();
    tops.add(start());
    if (chance(20)) tops.add(start());
    if (chance(10)) junk();
    for (int top : tops) ask(top);
    if (chance(30)) ask(next(both.model.nodes.size()));
    if (chance(10)) changeRecord();
    if (chance(20)) both.sameNodes();
    return both.wrong;
  }

  private int start() {
    int room = 120 - both.model.nodes.size();
    left = Math.min(left, room);
    switch (next(24)) {
      case 0: return room > 110 ? tower(2 + next(30)) : any(new ArrayList<>(), 9);
      case 1: return room > 110 ? doubling(1 + next(12)) : any(new ArrayList<>(), 9);
      case 2: return room > 110 ? deepLets(10 + next(46)) : any(new ArrayList<>(), 9);
      case 3: return room > 110 ? deepRecords(5 + next(55)) : any(new ArrayList<>(), 9);
      case 4: return room > 110 ? lifts(4 + next(94)) : any(new ArrayList<>(), 9);
      case 5: return room > 110 ? wide(1 + next(5)) : any(new ArrayList<>(), 9);
      case 7: case 8: case 9: case 10: case 11: case 12: case 13: return room > 110 ? crossing() : any(new ArrayList<>(), 9);
      case 6: return room > 110 ? selves(1 + next(8), 1 + next(14)) : any(new ArrayList<>(), 9);
      default: return any(new ArrayList<>(), 3 + next(40));
    }
  }

  private void ask(int top) {
    if (both.type(top) == Model.BAD) {
      met.merge("no program", 1, Integer::sum);
      return;
    }
    met.merge("type " + both.model.latest.why, 1, Integer::sum);
    if (both.model.latest.liftsUp > 0) met.merge("lifts up", 1, Integer::sum);
    if (both.model.latest.liftsDown > 0) met.merge("lifts down", 1, Integer::sum);
    both.work(top, chance(70) ? 300 : next(301));
    met.merge("work " + both.model.work.outcome, 1, Integer::sum);
  }

  /** A NODE with what it binds; the names in scope stand in a row, a letter each. */
  private int any(List<Integer> scope, int depth) {
    left--;
    if (left <= 1 || depth <= 0) return leaf(scope);
    switch (next(22)) {
      case 0: case 1: case 2: case 3: {
        int x = next(names);
        return both.function(x, any(with(scope, x), depth - 1));
      }
      case 4: case 5: case 6: case 7: {
        int f = callable(scope, depth - 1);
        return both.apply(f, any(scope, depth - 1));
      }
      case 8: case 9: case 10: case 11: {
        int x = next(names);
        int first = any(scope, depth - 1);
        return both.let(x, first, any(with(scope, x), depth - 1));
      }
      case 12: case 13: {
        int x = next(names);
        int first = chance(80) ? fun(with(scope, x), depth - 1) : any(with(scope, x), depth - 1);
        return both.rec(x, first, any(with(scope, x), depth - 1));
      }
      case 14: case 15: return record(scope, depth, next(4));
      case 16: case 17: {
        int part = chance(40) ? leaf(scope) : chance(50) ? record(scope, depth - 1, 3) : any(scope, depth - 1);
        return both.get(next(3), part);
      }
      case 18: case 19: {
        int truth = truthful(scope, depth - 1);
        int yes = any(scope, depth - 1);
        return both.pick(truth, yes, any(scope, depth - 1));
      }
      case 20: {
        int a = wholesome(scope, depth - 1);
        return both.sum(a, wholesome(scope, depth - 1));
      }
      default: return leaf(scope);
    }
  }

  private int leaf(List<Integer> scope) {
    if (!scope.isEmpty() && chance(75)) return both.name(scope.get(scope.size() - 1 - next(Math.min(5, scope.size()))));
    if (chance(2)) return both.name(next(26));
    return chance(70) ? both.number(chance(5) ? Integer.MIN_VALUE + next(3) : next(40) - 20) : both.truth(next(2));
  }

  private int callable(List<Integer> scope, int depth) {
    if (chance(55) && !scope.isEmpty()) return leaf(scope);
    return chance(80) ? fun(scope, depth) : any(scope, depth);
  }

  private int fun(List<Integer> scope, int depth) {
    left--;
    int x = next(names);
    return both.function(x, any(with(scope, x), depth - 1));
  }

  private int record(List<Integer> scope, int depth, int many) {
    boolean late = chance(50);
    int record = late ? -1 : both.record();
    int[] fields = new int[2 * many];
    int shift = next(26);
    for (int i = 0; i < many; i++) {
      fields[2 * i] = shift > 6 ? (i * 5 + shift) % 3 + (i >= 3 ? 3 : 0) : i;
      fields[2 * i + 1] = any(scope, depth - 1);
      if (!late) both.field(record, fields[2 * i], fields[2 * i + 1]);
    }
    left--;
    return late ? both.record(fields) : record;
  }

  private int truthful(List<Integer> scope, int depth) {
    left--;
    if (chance(40)) return both.truth(next(2));
    if (chance(30)) return any(scope, depth);
    int a = wholesome(scope, depth - 1);
    return both.less(a, wholesome(scope, depth - 1));
  }

  private int wholesome(List<Integer> scope, int depth) {
    left--;
    if (chance(40)) return both.number(next(9));
    return chance(70) ? leaf(scope) : any(scope, depth);
  }

  private static List<Integer> with(List<Integer> scope, int x) {
    List<Integer> more = new ArrayList<>(scope);
    more.add(x);
    return more;
  }

  // ---- programs of FUNCTIONS and LETS alone, with few RECORDS: they seldom FAULT, and their bounds cross LEVELS

  private int crossing() {
    names = 8;
    left = 20 + next(90);
    List<Integer> scope = new ArrayList<>();
    int depth = 4 + next(14);
    for (int i = 0; i < 2; i++) scope.add(i);
    int in = cross(scope, depth);
    return both.function(0, both.function(1, in));
  }

  private int cross(List<Integer> scope, int depth) {
    left--;
    if (left <= 1 || depth <= 0) return both.name(scope.get(next(scope.size())));
    int x = next(names);
    switch (next(20)) {
      case 0: case 1: case 2: case 3: return both.function(x, cross(with(scope, x), depth - 1));
      case 4: case 5: case 6: case 7: case 8: {
        int first = cross(scope, depth - 1);
        return both.apply(first, cross(scope, depth - 1));
      }
      case 9: case 10: {
        int first = both.function(x, cross(with(scope, x), depth - 1));
        return both.apply(first, cross(scope, depth - 1));
      }
      case 11: case 12: case 13: case 14: {
        int first = cross(scope, depth - 1);
        return both.let(x, first, cross(with(scope, x), depth - 1));
      }
      case 15: {
        int first = cross(with(scope, x), depth - 1);
        return both.rec(x, first, cross(with(scope, x), depth - 1));
      }
      case 16: {
        int yes = cross(scope, depth - 1);
        return both.pick(both.truth(1), yes, cross(scope, depth - 1));
      }
      case 17: {
        int a = cross(scope, depth - 1);
        return chance(50) ? both.get(0, both.record(0, a, 1, cross(scope, depth - 1))) : both.record(0, a);
      }
      case 18: return chance(30) ? both.get(next(2), both.name(scope.get(next(scope.size())))) : both.function(x, both.name(x));
      default: return both.name(scope.get(next(scope.size())));
    }
  }

  // ---- programs that come to the limits

  /** Functions that are applied to one another, or to themselves. */
  private int tower(int many) {
    int x = next(names);
    int body = both.apply(both.name(x), both.name(x));
    for (int i = 0; i < many && both.model.nodes.size() < 100; i++) {
      if (chance(50)) body = both.apply(body, both.name(x));
      else if (chance(50)) body = both.record(0, both.name(x), 1, body);
      else body = both.apply(both.name(x), body);
    }
    int f = both.function(x, body);
    int g = both.function(x, any(with(new ArrayList<>(), x), 4));
    return both.apply(f, g);
  }

  /** let a = .. in let b = {a a} in let c = {b b} ..: twice as many VARIABLES each time. */
  private int doubling(int many) {
    List<int[]> firsts = new ArrayList<>();
    firsts.add(new int[] {0, both.function(20, chance(50) ? both.name(20) : both.apply(both.name(20), both.number(1)))});
    for (int i = 1; i <= many; i++) {
      int before = i - 1;
      int first;
      switch (next(4)) {
        case 0: first = both.record(0, both.name(before), 1, both.name(before)); break;
        case 1: first = both.function(21, both.apply(both.name(before), both.apply(both.name(before), both.name(21)))); break;
        case 2: first = both.function(21, both.record(2, both.name(before), 3, both.name(21))); break;
        default: first = both.apply(both.name(before), both.name(before)); break;
      }
      firsts.add(new int[] {i, first});
    }
    int in = both.name(many);
    for (int i = many; i >= 0; i--) in = both.let(firsts.get(i)[0], firsts.get(i)[1], in);
    return in;
  }

  /** Lets whose first parts hold lets: high LEVELS; what they name stands low. */
  private int deepLets(int many) {
    int in = both.apply(both.name(0), both.function(1, both.name(1)));
    for (int i = 0; i < many && both.model.nodes.size() < 112; i++) {
      if (chance(60)) in = both.let(2 + next(3), in, both.name(2 + next(3)));
      else if (chance(50)) in = both.apply(both.name(0), in);
      else in = both.function(2 + next(3), in);
    }
    for (int x = 2; x <= 4 && both.model.nodes.size() < 118; x++) in = both.function(x, in);
    return both.model.nodes.size() < 120 ? both.function(0, in) : in;
  }

  /** What is deep, put under what is deep. */
  private int deepRecords(int many) {
    int up = 1 + next(4);
    boolean gets = chance(70);
    int part = both.name(24);
    for (int i = 0; i < many && both.model.nodes.size() < 90; i++) {
      part = gets ? both.get(0, part) : both.apply(part, both.number(1));
    }
    int record = both.rec(25, gets ? both.record(0, both.name(25)) : both.function(0, both.name(25)), both.name(25));
    int in = both.apply(both.function(24, part), record);
    for (int i = 0; i < up; i++) in = chance(50) ? both.let(10 + i, in, both.name(10 + i)) : both.record(1, in);
    return in;
  }

  /** A long chain of types, half in one let and half in the next, then MADE ANEW or LIFTED as a whole. */
  private int lifts(int many) {
    int inner = both.function(1, chain(both.name(1), many / 2));
    int outer = both.function(2, chain(both.name(0), many - many / 2));
    if (chance(50)) return both.let(0, inner, both.let(3, outer, both.apply(both.name(3), both.number(1))));
    int put = chance(50) ? both.apply(both.name(4), outer) : both.pick(both.truth(1), both.name(4), outer);
    return both.function(4, both.let(5, both.let(0, inner, put), both.name(5)));
  }

  private int chain(int part, int many) {
    int whole = part;
    for (int i = 0; i < many && both.model.nodes.size() < 110; i++) {
      whole = chance(50) ? both.function(6, whole) : both.record(next(2), whole);
    }
    return whole;
  }

  /** Some functions that come together below one VARIABLE, which is applied to itself. */
  private int selves(int uses, int many) {
    int body = both.apply(both.name(0), both.name(0));
    for (int i = 0; i < uses && both.model.nodes.size() < 40; i++) {
      body = both.pick(both.truth(1), body, both.apply(both.name(0), chance(50) ? both.name(0) : both.number(1)));
    }
    int given = both.function(1, both.name(1));
    for (int i = 0; i < many && both.model.nodes.size() < 112; i++) {
      given = both.pick(both.truth(1), given, both.function(1, chance(80) ? both.name(1) : both.number(2)));
    }
    return both.apply(both.function(0, body), given);
  }

  /** Many bounds below and above a few VARIABLES. */
  private int wide(int many) {
    int x = both.name(0);
    int in = both.get(0, both.name(0));
    for (int i = 0; i < 9 * many && both.model.nodes.size() < 96; i++) {
      int next = chance(50) ? both.record(0, both.number(1), next(2) + 1, both.name(0)) : both.function(3, both.name(0));
      in = both.pick(both.truth(1), in, next);
    }
    int fun = both.function(0, both.pick(both.truth(0), x, in));
    int first = both.let(7, fun, both.apply(both.name(7), both.apply(both.name(7), both.name(7))));
    return both.rec(8, first, both.apply(both.name(8), both.name(8)));
  }

  /** Calls with numbers that are none. */
  private void junk() {
    for (int i = 0; i < 12; i++) {
      int most = both.model.nodes.size() + 2;
      both.node(junk(14), junk(30), junk(most), junk(most), junk(most));
      both.field(junk(most), junk(28), junk(most));
    }
    both.sameNodes();
    both.type(junk(both.model.nodes.size() + 2));
    both.work(junk(both.model.nodes.size() + 2), junk(303));
  }

  /** - 1 to most - 2; now and then far outside. */
  private int junk(int most) {
    if (chance(4)) return chance(50) ? Integer.MIN_VALUE + next(2) : Integer.MAX_VALUE - next(2);
    return next(most) - 1;
  }

  /** A FIELD more: the latest type() is none any more. */
  private void changeRecord() {
    int record = both.record();
    int part = both.number(3);
    both.type(part);
    both.field(record, next(26), part);
    both.sameTypes();
    both.sameWork();
    both.sameNodes();
  }
}
