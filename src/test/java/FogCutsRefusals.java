/**
 * Promise by promise, each call that is refused, on both sides of each bound: what it answers, where two refusals fit,
 * too, and that it changes nothing: what is told of the object then is what is told of one that was never asked.
 */
public final class FogCutsRefusals {
  private static final int NONE = -6, UNKNOWN = -1, OUTSIDE = -2, STATE = -3, FULL = -4, NO = -5;
  private static final int LEAST = Integer.MIN_VALUE, MOST = Integer.MAX_VALUE;
  private static final long LOST = -1000000000000000000L;
  /** Ways to be: a night that can be done, one with a fault, one that can not be, hours alone, all full, a new object. */
  private static final int FIT = 0, FAULTY = 1, UNFIT = 2, HOURS = 3, BRIM = 4, NEW = 5;
  private static final String[] NIGHTS = {"b*a3c+.>", "a3b", ".a9", ">.~", ".".repeat(56) + ">.~.", ""};
  private static final String[] NAMES = {"fit", "faulty", "unfit", "hours", "full", "new"};
  private static int wrong = 0, asked = 0;
  /** The one that is looked at: how it is, how many cells it has, and what is told of one that was never asked. */
  private static int way = 0, cells = 0;
  private static String untouched = "";

  private interface Call { long of(FogCuts x); }

  private static FogCuts make() {
    FogCuts x = new FogCuts();
    if (way == NEW) return x;
    x.bank(2, 5);
    String thick = "4930562710";
    for (int cell = 0; cell < 10; cell++) x.cell(cell, 0, thick.charAt(cell) - '0');
    x.cell(1, 1, 1);
    x.cell(6, 1, 1);
    x.image(0);
    x.cell(9, 0, 4);
    x.set(0, 3);
    x.set(1, 2);
    x.shape(0, 0, 3);
    x.shape(0, 1, 7);
    for (int cell = 0; cell < 4; cell++) x.shape(2, cell, 2 * cell);
    x.shape(3, 9, 5);
    x.seen(3, 1);
    if (way == BRIM) {
      for (int cell = 0; cell < 9; cell++) x.cell(cell, 1, 1);
      for (int i = 1; i < 8; i++) x.seen(0, 0);
      x.image(1);
    }
    for (char sign : NIGHTS[way].toCharArray()) x.say(sign);
    return x;
  }

  private static void tellBank(StringBuilder out, FogCuts x) {
    for (int what = 0; what < 8; what++) out.append(x.told(what)).append(' ');
    for (int cell = 0; cell < x.told(1) * x.told(2); cell++) out.append(x.state(cell, 0)).append(x.state(cell, 1)).append(' ');
  }
  private static void tellSights(StringBuilder out, FogCuts x) {
    out.append(x.what(-1)).append(' ').append(x.what(0)).append(' ').append(x.where()).append(" | ");
  }
  /** All that can be told of it; it is not what it was then. */
  private static String tale(FogCuts x) {
    StringBuilder out = new StringBuilder();
    tellBank(out, x);
    tellSights(out, x);
    for (int shape = 0; shape < 4; shape++) {
      out.append(x.stands(shape)).append(x.lost(shape)).append(x.carved(shape)).append(' ');
      for (int cell = 0; cell < cells; cell++) out.append(x.told(100 * (1 + shape) + cell)).append(' ');
    }
    out.append(x.fault()).append(x.judge(0)).append(x.judge(1)).append(x.through()).append(x.apart(-1)).append(" | ");
    for (int cell = 0; cell < cells; cell++) out.append(x.behind(cell, 0)).append(x.behind(cell, 1)).append(' ');
    out.append(x.say('.')).append(x.done()).append(" | ");
    tellBank(out, x);
    out.append(x.wipe()).append(" | ");
    tellSights(out, x);
    for (int n = 0; n < 2; n++) {
      out.append(x.restore(n)).append(" | ");
      tellBank(out, x);
    }
    return out.toString();
  }

  private static void tell(String name, String what) {
    wrong++;
    System.out.println(NAMES[way] + ": " + name + " " + what);
  }
  private static void refused(String name, Call call, long want) {
    FogCuts x = make();
    long got = call.of(x);
    asked++;
    if (got != want) tell(name, "answered " + got + ", due is " + want);
    if (!tale(x).equals(untouched)) tell(name, "changed something");
  }
  /** The last number ahead of a refused one: it is not refused. */
  private static void allowed(String name, Call call) {
    long got = call.of(make());
    asked++;
    if (got < 0 && got != NONE) tell(name, "answered " + got + ", it is not to be refused");
  }
  /** A call that asks, and changes nothing. */
  private static void harmless(String name, Call call) {
    FogCuts x = make();
    call.of(x);
    asked++;
    if (!tale(x).equals(untouched)) tell(name, "changed something");
  }

  private static boolean isHoursAlone() { return way == HOURS || way == BRIM || way == NEW; }
  private static boolean canBeDone() { return way != FAULTY && way != UNFIT; }
  private static int[] noCells() { return new int[] {-1, cells, LEAST, MOST}; }
  private static int[] noShapes() { return new int[] {-1, 4, LEAST, MOST}; }
  /** Also those that are none. */
  private static int[] notShapes() { return way == NEW ? new int[] {-1, 0, 1, 2, 3, 4, LEAST, MOST} : new int[] {-1, 1, 4, LEAST, MOST}; }
  private static int[] but(int least, int most) { return new int[] {least - 1, most + 1, LEAST, MOST}; }

  private static void promise2() {
    for (int rows : but(1, 4)) refused("bank(" + rows + ", 1)", x -> x.bank(rows, 1), OUTSIDE);
    for (int columns : but(1, 6)) refused("bank(1, " + columns + ")", x -> x.bank(1, columns), OUTSIDE);
    refused("bank(0, 0)", x -> x.bank(0, 0), OUTSIDE);
    refused("bank(6, 4)", x -> x.bank(6, 4), OUTSIDE);
    allowed("bank(1, 6)", x -> x.bank(1, 6));
    allowed("bank(4, 1)", x -> x.bank(4, 1));
  }
  private static void promise3() {
    for (int cell : noCells()) {
      refused("cell(" + cell + ", 0, 5)", x -> x.cell(cell, 0, 5), UNKNOWN);
      refused("cell(" + cell + ", 1, 1)", x -> x.cell(cell, 1, 1), UNKNOWN);
      refused("cell(" + cell + ", 2, 10)", x -> x.cell(cell, 2, 10), UNKNOWN);
    }
    for (int what : but(0, 1)) refused("cell(0, " + what + ", 1)", x -> x.cell(0, what, 1), OUTSIDE);
    for (int v : but(0, 9)) refused("cell(0, 0, " + v + ")", x -> x.cell(0, 0, v), OUTSIDE);
    for (int v : but(0, 1)) refused("cell(0, 1, " + v + ")", x -> x.cell(0, 1, v), OUTSIDE);
    allowed("cell(0, 0, 0)", x -> x.cell(0, 0, 0));
    allowed("cell(last, 0, 9)", x -> x.cell(cells - 1, 0, 9));
    allowed("cell(0, 1, 0)", x -> x.cell(0, 1, 0));
    allowed("cell(last, 1, 1)", x -> x.cell(cells - 1, 1, 1));
  }
  private static void promise4() {
    for (int which : but(0, 1)) refused("set(" + which + ", 1)", x -> x.set(which, 1), OUTSIDE);
    for (int v : but(1, 5)) refused("set(0, " + v + ")", x -> x.set(0, v), OUTSIDE);
    for (int v : but(0, 3)) refused("set(1, " + v + ")", x -> x.set(1, v), OUTSIDE);
    allowed("set(0, 1)", x -> x.set(0, 1));
    allowed("set(0, 5)", x -> x.set(0, 5));
    allowed("set(1, 0)", x -> x.set(1, 0));
    allowed("set(1, 3)", x -> x.set(1, 3));
  }
  private static void promise5() {
    for (int shape : noShapes()) {
      refused("shape(" + shape + ", 0, 5)", x -> x.shape(shape, 0, 5), UNKNOWN);
      refused("shape(" + shape + ", 0, 10)", x -> x.shape(shape, 0, 10), UNKNOWN);
      refused("shape(" + shape + ", -1, 5)", x -> x.shape(shape, -1, 5), UNKNOWN);
    }
    for (int cell : noCells()) {
      refused("shape(0, " + cell + ", 5)", x -> x.shape(0, cell, 5), UNKNOWN);
      refused("shape(1, " + cell + ", -1)", x -> x.shape(1, cell, -1), UNKNOWN);
      refused("shape(3, " + cell + ", -2)", x -> x.shape(3, cell, -2), UNKNOWN);
    }
    for (int v : but(-1, 9)) refused("shape(0, 0, " + v + ")", x -> x.shape(0, 0, v), OUTSIDE);
    allowed("shape(0, 0, -1)", x -> x.shape(0, 0, -1));
    allowed("shape(3, last, 9)", x -> x.shape(3, cells - 1, 9));
  }
  private static void promise6() {
    for (int sign : but(33, 126)) refused("say(" + sign + ")", x -> x.say(sign), OUTSIDE);
    refused("say(0)", x -> x.say(0), OUTSIDE);
    for (int sign : new int[] {33, 126, '.', 'a'}) {
      if (way == BRIM) refused("say(" + sign + ")", x -> x.say(sign), FULL);
      else allowed("say(" + sign + ")", x -> x.say(sign));
    }
  }
  private static void promise9() {
    for (int what : but(0, 1)) refused("judge(" + what + ")", x -> x.judge(what), OUTSIDE);
    for (int what = 0; what <= 1; what++) {
      int w = what;
      if (way == FAULTY) refused("judge(" + w + ")", x -> x.judge(w), NO);
      else allowed("judge(" + w + ")", x -> x.judge(w));
    }
  }
  private static void promise10() {
    if (canBeDone()) allowed("done()", x -> x.done());
    else refused("done()", x -> x.done(), NO);
  }
  private static void promise11() {
    for (int cell : noCells()) {
      refused("state(" + cell + ", 0)", x -> x.state(cell, 0), UNKNOWN);
      refused("state(" + cell + ", 2)", x -> x.state(cell, 2), UNKNOWN);
    }
    for (int what : but(0, 1)) refused("state(0, " + what + ")", x -> x.state(0, what), OUTSIDE);
    allowed("state(0, 0)", x -> x.state(0, 0));
    allowed("state(last, 1)", x -> x.state(cells - 1, 1));
  }
  private static void promise12() {
    for (int cell : noCells()) {
      refused("behind(" + cell + ", 0)", x -> x.behind(cell, 0), UNKNOWN);
      refused("behind(" + cell + ", 2)", x -> x.behind(cell, 2), UNKNOWN);
    }
    for (int what : but(0, 1)) refused("behind(0, " + what + ")", x -> x.behind(0, what), OUTSIDE);
    for (int what = 0; what <= 1; what++) {
      int w = what;
      if (canBeDone()) allowed("behind(last, " + w + ")", x -> x.behind(cells - 1, w));
      else refused("behind(last, " + w + ")", x -> x.behind(cells - 1, w), NO);
    }
  }
  private static void promises13to16() {
    for (int shape : notShapes()) {
      refused("stands(" + shape + ")", x -> x.stands(shape), UNKNOWN);
      refused("lost(" + shape + ")", x -> x.lost(shape), UNKNOWN);
      refused("carved(" + shape + ")", x -> x.carved(shape), UNKNOWN);
    }
    if (way == NEW) return;
    for (int shape : new int[] {0, 2, 3}) {
      allowed("stands(" + shape + ")", x -> x.stands(shape));
      allowed("carved(" + shape + ")", x -> x.carved(shape));
      if (canBeDone()) allowed("lost(" + shape + ")", x -> x.lost(shape));
      else refused("lost(" + shape + ")", x -> x.lost(shape), NO);
    }
  }
  private static void promise17() {
    for (int shape : notShapes()) {
      refused("nowThen(" + shape + ", 0)", x -> x.nowThen(shape, 0), UNKNOWN);
      refused("nowThen(" + shape + ", 2)", x -> x.nowThen(shape, 2), UNKNOWN);
    }
    if (way == NEW) return;
    for (int what : but(0, 1)) {
      refused("nowThen(0, " + what + ")", x -> x.nowThen(0, what), OUTSIDE);
      refused("nowThen(2, " + what + ")", x -> x.nowThen(2, what), OUTSIDE);
    }
    for (int what = 0; what <= 1; what++) {
      int w = what;
      if (isHoursAlone()) allowed("nowThen(0, " + w + ")", x -> x.nowThen(0, w));
      else refused("nowThen(0, " + w + ")", x -> x.nowThen(0, w), NO);
      refused("nowThen(2, " + w + ")", x -> x.nowThen(2, w), isHoursAlone() ? FULL : NO);
    }
  }
  private static void promise18() {
    for (int shape : notShapes()) {
      refused("dark(" + shape + ", 0)", x -> x.dark(shape, 0), UNKNOWN);
      refused("dark(" + shape + ", 2)", x -> x.dark(shape, 2), UNKNOWN);
    }
    if (way == NEW) return;
    for (int what : but(0, 1)) refused("dark(2, " + what + ")", x -> x.dark(2, what), OUTSIDE);
    for (int what = 0; what <= 1; what++) {
      int w = what;
      if (way == HOURS) allowed("dark(2, " + w + ")", x -> x.dark(2, w));
      else refused("dark(2, " + w + ")", x -> x.dark(2, w), way == BRIM ? FULL : NO);
    }
  }
  private static void promise19() {
    for (int shape : notShapes()) {
      refused("moved(" + shape + ", 0)", x -> x.moved(shape, 0), UNKNOWN);
      refused("moved(" + shape + ", 2)", x -> x.moved(shape, 2), UNKNOWN);
    }
    if (way == NEW) return;
    for (int what : but(0, 1)) refused("moved(0, " + what + ")", x -> x.moved(0, what), OUTSIDE);
    allowed("moved(0, 0)", x -> x.moved(0, 0));
    allowed("moved(3, 1)", x -> x.moved(3, 1));
  }
  private static void promise21() {
    for (int cell : noCells()) {
      refused("walk(" + cell + ", 0, 0)", x -> x.walk(cell, 0, 0), UNKNOWN);
      refused("walk(0, " + cell + ", 0)", x -> x.walk(0, cell, 0), UNKNOWN);
      refused("walk(" + cell + ", " + cell + ", 3)", x -> x.walk(cell, cell, 3), UNKNOWN);
      refused("walk(0, " + cell + ", -1)", x -> x.walk(0, cell, -1), UNKNOWN);
    }
    for (int what : but(0, 2)) {
      refused("walk(0, 1, " + what + ")", x -> x.walk(0, 1, what), OUTSIDE);
      refused("walk(0, 0, " + what + ")", x -> x.walk(0, 0, what), OUTSIDE);
    }
    for (int what = 0; what <= 2; what++) {
      int w = what;
      allowed("walk(0, last, " + w + ")", x -> x.walk(0, cells - 1, w));
    }
  }
  private static void promises22and23() {
    int all = (1 << cells) - 1;
    for (int set : new int[] {-1, all + 1, all + 2, LEAST, MOST}) {
      refused("wins(" + set + ")", x -> x.wins(set), OUTSIDE);
      refused("cut(" + set + ")", x -> x.cut(set), OUTSIDE);
    }
    for (int set : new int[] {0, all}) {
      allowed("wins(" + set + ")", x -> x.wins(set));
      allowed("cut(" + set + ")", x -> x.cut(set));
    }
  }
  private static void promise24() {
    for (int cell : noCells()) {
      refused("seen(" + cell + ", 0)", x -> x.seen(cell, 0), UNKNOWN);
      refused("seen(" + cell + ", 10)", x -> x.seen(cell, 10), UNKNOWN);
    }
    for (int v : but(0, 9)) refused("seen(0, " + v + ")", x -> x.seen(0, v), OUTSIDE);
    for (int v = 0; v <= 9; v += 9) {
      int w = v;
      if (way == BRIM) refused("seen(0, " + w + ")", x -> x.seen(0, w), FULL);
      else allowed("seen(last, " + w + ")", x -> x.seen(cells - 1, w));
    }
  }
  private static void promises26and27() {
    for (int i : new int[] {-1, 0, -2, LEAST, MOST}) {
      if (isHoursAlone()) allowed("what(" + i + ")", x -> x.what(i));
      else refused("what(" + i + ")", x -> x.what(i), NO);
    }
    if (isHoursAlone()) allowed("where()", x -> x.where());
    else refused("where()", x -> x.where(), NO);
  }
  private static void promise28() {
    for (int shape : notShapes()) {
      refused("chance(" + shape + ", 5, 2, 0)", x -> x.chance(shape, 5, 2, 0), LOST + UNKNOWN);
      refused("chance(" + shape + ", 11, 9, 2)", x -> x.chance(shape, 11, 9, 2), LOST + UNKNOWN);
    }
    if (way == NEW) return;
    for (int t : but(0, 10)) refused("chance(0, " + t + ", 2, 0)", x -> x.chance(0, t, 2, 0), LOST + OUTSIDE);
    for (int m : but(0, 8)) refused("chance(0, 5, " + m + ", 1)", x -> x.chance(0, 5, m, 1), LOST + OUTSIDE);
    for (int part : but(0, 1)) refused("chance(0, 5, 2, " + part + ")", x -> x.chance(0, 5, 2, part), LOST + OUTSIDE);
    allowed("chance(0, 0, 0, 0)", x -> x.chance(0, 0, 0, 0));
    allowed("chance(3, 10, 8, 1)", x -> x.chance(3, 10, 8, 1));
  }
  private static void promise29() {
    for (int seed : but(0, 9999)) refused("year(" + seed + ", 1, 0)", x -> x.year(seed, 1, 0), OUTSIDE);
    for (int m : but(1, 99)) refused("year(0, " + m + ", 1)", x -> x.year(0, m, 1), OUTSIDE);
    for (int what : but(0, 2)) refused("year(0, 1, " + what + ")", x -> x.year(0, 1, what), OUTSIDE);
    allowed("year(0, 1, 0)", x -> x.year(0, 1, 0));
    allowed("year(9999, 99, 2)", x -> x.year(9999, 99, 2));
  }
  private static void promises30and31() {
    for (int n : but(0, 1)) {
      refused("image(" + n + ")", x -> x.image(n), OUTSIDE);
      refused("restore(" + n + ")", x -> x.restore(n), OUTSIDE);
    }
    for (int i = 0; i <= 1; i++) {
      int n = i;
      allowed("image(" + n + ")", x -> x.image(n));
      if (way == BRIM || way != NEW && n == 0) allowed("restore(" + n + ")", x -> x.restore(n));
      else refused("restore(" + n + ")", x -> x.restore(n), STATE);
    }
  }
  private static void promise32() {
    for (int what : new int[] {-1, 8, 99, 100 + cells, 199, 400 + cells, 499, 500, -100, LEAST, MOST}) {
      refused("told(" + what + ")", x -> x.told(what), OUTSIDE);
    }
    allowed("told(0)", x -> x.told(0));
    allowed("told(7)", x -> x.told(7));
  }
  private static void asking() {
    harmless("fault()", x -> x.fault());
    harmless("judge(0)", x -> x.judge(0));
    harmless("state(0, 0)", x -> x.state(0, 0));
    harmless("behind(0, 0)", x -> x.behind(0, 0));
    harmless("stands(0)", x -> x.stands(0));
    harmless("lost(0)", x -> x.lost(0));
    harmless("through()", x -> x.through());
    harmless("carved(0)", x -> x.carved(0));
    harmless("nowThen(0, 1)", x -> x.nowThen(0, 1));
    harmless("dark(0, 1)", x -> x.dark(0, 1));
    harmless("moved(0, 1)", x -> x.moved(0, 1));
    harmless("apart(0)", x -> x.apart(0));
    harmless("apart(-2)", x -> x.apart(-2));
    harmless("walk(0, 9, 2)", x -> x.walk(0, 9, 2));
    harmless("wins(31)", x -> x.wins(31));
    harmless("cut(31)", x -> x.cut(31));
    harmless("what(-1)", x -> x.what(-1));
    harmless("where()", x -> x.where());
    harmless("chance(0, 5, 8, 0)", x -> x.chance(0, 5, 8, 0));
    harmless("year(77, 99, 0)", x -> x.year(77, 99, 0));
    harmless("told(7)", x -> x.told(7));
  }
  private static void all() {
    promise2();
    promise3();
    promise4();
    promise5();
    promise6();
    promise9();
    promise10();
    promise11();
    promise12();
    promises13to16();
    promise17();
    promise18();
    promise19();
    promise21();
    promises22and23();
    promise24();
    promises26and27();
    promise28();
    promise29();
    promises30and31();
    promise32();
    asking();
  }

  public static void main(String[] args) {
    for (way = FIT; way <= NEW; way++) {
      cells = way == NEW ? 12 : 10;
      untouched = tale(make());
      all();
    }
    System.out.println(wrong == 0 ? "all " + asked + " calls are refused or not as due" : wrong + " refusals are not as due");
    if (wrong != 0) System.exit(1);
  }
}
