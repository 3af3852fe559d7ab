import java.lang.management.ManagementFactory;

/** The dearest calls, again and again: what they make stays far below the room that all calls of one run share. */
public final class FogCutsRoom {
  private static final int CALLS = 100;
  /** 7.3 million fields and elements, of four bytes or more, are to do for 512 calls: some 57000 bytes a call. */
  private static final long MOST_BYTES = 50000L * CALLS;
  private static int wrong = 0;
  private static long sum = 0;

  private static FogCuts full() {
    FogCuts x = new FogCuts();
    x.bank(4, 6);
    x.set(1, 0);
    for (int cell = 0; cell < 24; cell++) x.cell(cell, 0, 9);
    for (int cell = 0; cell < 24; cell += 3) x.cell(cell, 1, 1);
    for (int i = 0; i < 3; i++) x.shape(0, 7 + 4 * i, 9);
    for (int i = 0; i < 24; i++) x.shape(1, i, i % 10);
    for (int i = 0; i < 60; i++) x.say("><^_~.".charAt(i % 6));
    x.seen(0, 9);
    x.image(0);
    x.image(1);
    return x;
  }

  private static long ask(FogCuts x, int which, int i) {
    switch (which) {
      case 0: return x.nowThen(0, i % 2);
      case 1: return x.dark(0, i % 2);
      case 2: return x.what(i - 1);
      case 3: return x.where();
      case 4: return x.chance(0, 5, 8, i % 2);
      case 5: return x.year(i, 99, i % 3);
      case 6: return x.walk(i % 24, 23, i % 3);
      case 7: return x.moved(i % 2, i % 2);
      case 8: return x.behind(i % 24, i % 2);
      case 9: return x.lost(0);
      case 10: return x.image(i % 2) + x.restore(i % 2);
      case 11: return x.bank(1 + i % 4, 1 + i % 6);
      default: return x.told(i);
    }
  }

  private static long made() {
    com.sun.management.ThreadMXBean threads = (com.sun.management.ThreadMXBean) ManagementFactory.getThreadMXBean();
    return threads.getThreadAllocatedBytes(Thread.currentThread().getId());
  }

  public static void main(String[] args) {
    for (int which = 0; which <= 12; which++) {
      // Once ahead, so that what the machine itself makes at a first call is not counted.
      sum += ask(full(), which, 0);
      FogCuts x = full();
      long before = made();
      for (int i = 0; i < CALLS; i++) sum += ask(x, which, i);
      long bytes = made() - before;
      if (bytes > MOST_BYTES) {
        wrong++;
        System.out.println("call " + which + " made " + bytes + " bytes in " + CALLS + " calls");
      }
    }
    System.out.println(wrong == 0 ? "no call makes too much (" + sum + ")" : wrong + " calls make too much");
    if (wrong != 0) System.exit(1);
  }
}
