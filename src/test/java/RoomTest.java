import java.lang.management.ManagementFactory;

/**
 * What 512 calls leave in the room: about 600,000 objects and 7.3 million fields and elements for all calls of a run.
 * What the program makes is counted in bytes, of which an object takes 16 at least, an element 1 to 4.
 */
public final class RoomTest {
  private static final int CALLS = 512;
  /** Far below the room's: 40,000 objects, 250,000 elements. */
  private static final long MOST_BYTES = 1000000;

  private static final com.sun.management.ThreadMXBean THREADS =
      (com.sun.management.ThreadMXBean) ManagementFactory.getThreadMXBean();
  private static int failed = 0;

  public static void main(String[] args) {
    if (THREADS.getCurrentThreadAllocatedBytes() < 0) {
      System.out.println("RoomTest: this machine does not count; 0 passed, 0 failed");
      return;
    }
    int all = 0;
    for (int which = 0; which < 6; which++) {
      run(which, 8);
      long bytes = run(which, CALLS);
      all++;
      System.out.println("RoomTest: run " + which + " made " + bytes + " bytes");
      if (bytes > MOST_BYTES) {
        failed++;
        System.out.println("too many");
      }
    }
    System.out.println("RoomTest: " + (all - failed) + " passed, " + failed + " failed");
    if (failed != 0) System.exit(1);
  }

  private static long run(int which, int calls) {
    long before = THREADS.getCurrentThreadAllocatedBytes();
    PolarTypes x = new PolarTypes();
    int top = which == 0 ? selves(x) : which == 1 ? doubling(x) : which == 2 ? loop(x) : which == 3 ? wide(x) : deep(x);
    int made = x.count(0);
    for (int i = made; i < calls; i++) {
      if (which == 2) x.work(top, 300);
      else if (which == 5 && i > made) x.bound(i % 3, i % 2 == 0, 0, i % 300);
      else x.type(top);
    }
    return THREADS.getCurrentThreadAllocatedBytes() - before;
  }

  private static int name(PolarTypes x, int letter) {
    return x.node(2, letter, 0, 0, 0);
  }

  private static int function(PolarTypes x, int letter, int body) {
    return x.node(3, letter, body, 0, 0);
  }

  private static int apply(PolarTypes x, int what, int to) {
    return x.node(4, 0, what, to, 0);
  }

  /** 1500 STEPS. */
  private static int selves(PolarTypes x) {
    int body = apply(x, name(x, 0), name(x, 0));
    for (int i = 0; i < 6; i++) {
      int other = apply(x, name(x, 0), name(x, 0));
      body = x.node(9, 0, x.node(1, 1, 0, 0, 0), body, other);
    }
    int given = function(x, 1, name(x, 1));
    for (int i = 0; i < 14; i++) given = x.node(9, 0, x.node(1, 1, 0, 0, 0), given, function(x, 1, name(x, 1)));
    return apply(x, function(x, 0, body), given);
  }

  /** 150 VARIABLES, with their TYPES. */
  private static int doubling(PolarTypes x) {
    int[] firsts = new int[9];
    firsts[0] = function(x, 23, apply(x, name(x, 23), name(x, 23)));
    for (int i = 1; i < 9; i++) {
      int inner = apply(x, name(x, i - 1), name(x, 24));
      firsts[i] = function(x, 24, apply(x, name(x, i - 1), inner));
    }
    int in = name(x, 8);
    for (int i = 8; i >= 0; i--) in = x.node(7, i, firsts[i], in, 0);
    return in;
  }

  /** 300 STEPS of RECORDS and FUNCTIONS. */
  private static int loop(PolarTypes x) {
    int record = x.node(5, 0, 0, 0, 0);
    x.field(record, 0, name(x, 0));
    for (int i = 1; i < 6; i++) x.field(record, i, x.node(0, i, 0, 0, 0));
    int body = function(x, 1, record);
    for (int i = 0; i < 4; i++) body = x.node(7, 2, body, apply(x, name(x, 2), name(x, 0)), 0);
    int first = function(x, 0, apply(x, name(x, 25), body));
    return x.node(8, 25, first, apply(x, name(x, 25), x.node(0, 1, 0, 0, 0)), 0);
  }

  /** Long rows of bounds, copied. */
  private static int wide(PolarTypes x) {
    int in = x.node(5, 0, 0, 0, 0);
    for (int i = 0; i < 16; i++) in = x.node(9, 0, name(x, 0), x.node(5, 0, 0, 0, 0), in);
    int first = function(x, 0, function(x, 1, x.node(9, 0, name(x, 0), in, name(x, 1))));
    int record = x.node(5, 0, 0, 0, 0);
    for (int i = 0; i < 6; i++) x.field(record, i, name(x, 2));
    int second = x.node(5, 0, 0, 0, 0);
    for (int i = 0; i < 6; i++) x.field(second, i, name(x, 3));
    int third = x.node(5, 0, 0, 0, 0);
    for (int i = 0; i < 6; i++) x.field(third, i, name(x, 4));
    return x.node(7, 2, first, x.node(7, 3, record, x.node(7, 4, second, third, 0), 0), 0);
  }

  /** UNDER, 60 deep. */
  private static int deep(PolarTypes x) {
    int record = x.node(5, 0, 0, 0, 0);
    int part = name(x, 0);
    for (int i = 0; i < 29; i++) part = x.node(6, 0, part, 0, 0);
    for (int i = 0; i < 29; i++) {
      int outer = x.node(5, 0, 0, 0, 0);
      x.field(outer, 0, record);
      record = outer;
    }
    return apply(x, function(x, 0, part), record);
  }
}
