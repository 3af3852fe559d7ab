/** Promise by promise: ordinary calls, the edges that the document names, and wrong calls. */
public final class FogCutsPromises {
  private static final int LEAST = -2147483648, MOST = 2147483647;
  private static int wrong = 0;
  private static int promise = 0;

  private static void due(String what, long got, long want) {
    if (got != want) { wrong++; System.out.println("promise " + promise + ", " + what + ": answered " + got + ", due is " + want); }
  }
  private static void pad(FogCuts x, String night) {
    x.wipe();
    for (char sign : night.toCharArray()) x.say(sign);
  }
  /** How thick all cells are, as digits. */
  private static String fog(FogCuts x) {
    StringBuilder out = new StringBuilder();
    for (int cell = 0; cell < x.told(1) * x.told(2); cell++) out.append(x.state(cell, 0));
    return out.toString();
  }
  private static String fogBehind(FogCuts x, String night) {
    pad(x, night);
    StringBuilder out = new StringBuilder();
    for (int cell = 0; cell < x.told(1) * x.told(2); cell++) out.append(x.behind(cell, 0));
    return out.toString();
  }
  private static void dueFog(String what, String got, String want) {
    if (!got.equals(want)) { wrong++; System.out.println("promise " + promise + ", " + what + ": " + got + ", due is " + want); }
  }
  private static FogCuts of(int rows, int columns, String thick) {
    FogCuts x = new FogCuts();
    x.bank(rows, columns);
    for (int cell = 0; cell < thick.length(); cell++) x.cell(cell, 0, thick.charAt(cell) - '0');
    return x;
  }

  private static void promise1() {
    promise = 1;
    FogCuts x = new FogCuts();
    int[] want = {0, 3, 4, 2, 1, 0, 0, 0};
    for (int what = 0; what < 8; what++) due("told " + what, x.told(what), want[what]);
    dueFog("no fog", fog(x), "000000000000");
    for (int shape = 0; shape < 4; shape++) due("shape " + shape, x.stands(shape), -1);
    due("no image 0", x.restore(0), -3);
    due("no image 1", x.restore(1), -3);
    due("of another object", new FogCuts().told(7), 0);
  }

  private static void promise2() {
    promise = 2;
    FogCuts x = new FogCuts();
    x.image(1);
    x.cell(0, 0, 4);
    x.cell(1, 1, 1);
    x.cell(2, 0, 6);
    x.set(0, 5);
    x.set(1, 3);
    x.shape(2, 1, 1);
    x.seen(0, 1);
    pad(x, "l+");
    int[][] out = {{0, 1}, {5, 1}, {1, 0}, {1, 7}, {-1, 3}, {LEAST, 4}, {4, MOST}, {MOST, MOST}};
    for (int[] b : out) due("bank " + b[0] + " " + b[1], x.bank(b[0], b[1]), -2);
    due("refused, it is as it was", x.told(7), 10);
    due("and as wide", x.told(2), 4);
    due("cells", x.bank(2, 3), 6);
    int[] want = {2, 2, 3, 2, 1, 0, 0, 0};
    for (int what = 0; what < 8; what++) due("told " + what, x.told(what), want[what]);
    due("no shape", x.stands(2), -1);
    due("the pad stays; l is no cell now", x.fault(), 0);
    due("cells", x.bank(3, 4), 12);
    due("no shape behind the same bank again", x.stands(2), -1);
    due("the pad is sound again", x.fault(), -6);
    dueFog("no lamp melts", fogBehind(x, "~."), "200020002000");
    due("images stay", x.restore(1), 1);
    due("most", x.bank(4, 6), 24);
    due("least", x.bank(1, 1), 1);
    FogCuts y = new FogCuts();
    y.cell(5, 1, 1);
    y.bank(3, 4);
    dueFog("the old lamp is gone", fogBehind(y, "f+."), "000001000000");
  }

  private static void promise3() {
    promise = 3;
    FogCuts x = new FogCuts();
    due("thick", x.cell(3, 0, 9), 0);
    due("thick again", x.cell(3, 0, 4), 9);
    due("lamp", x.cell(3, 1, 1), 0);
    due("lamp again", x.cell(3, 1, 1), 1);
    due("lamp out", x.cell(3, 1, 0), 1);
    due("thick is another thing", x.cell(3, 0, 0), 4);
    due("last cell", x.cell(11, 0, 1), 0);
    due("no cell", x.cell(12, 0, 1), -1);
    due("no cell below", x.cell(-1, 0, 1), -1);
    due("no cell far off", x.cell(MOST, 9, 99), -1);
    due("too thick", x.cell(0, 0, 10), -2);
    due("too thin", x.cell(0, 0, -1), -2);
    due("lamp 2", x.cell(0, 1, 2), -2);
    due("lamp -1", x.cell(0, 1, -1), -2);
    due("what 2", x.cell(0, 2, 0), -2);
    due("what -1", x.cell(0, -1, 0), -2);
    due("nothing came of it", x.told(7), 1);
    due("nor a lamp", x.told(5), 0);
  }

  private static void promise4() {
    promise = 4;
    FogCuts x = new FogCuts();
    due("feed", x.set(0, 5), 2);
    due("feed again", x.set(0, 1), 5);
    due("feed stays", x.told(3), 1);
    due("slack", x.set(1, 3), 1);
    due("slack again", x.set(1, 0), 3);
    due("slack stays", x.told(4), 0);
    int[][] out = {{0, 0}, {0, 6}, {0, -1}, {1, -1}, {1, 4}, {2, 1}, {-1, 1}, {MOST, 1}, {LEAST, 1}};
    for (int[] s : out) due("set " + s[0] + " " + s[1], x.set(s[0], s[1]), -2);
    due("feed as it was", x.told(3), 1);
    due("slack as it was", x.told(4), 0);
  }

  private static void promise5() {
    promise = 5;
    FogCuts x = new FogCuts();
    due("one", x.shape(0, 3, 7), 1);
    due("another number", x.shape(0, 3, 0), 1);
    due("two", x.shape(0, 11, 9), 2);
    due("another shape", x.shape(3, 3, 2), 1);
    due("not wanted any more", x.shape(0, 3, -1), 1);
    due("nor that", x.shape(0, 3, -1), 1);
    due("none is left", x.shape(0, 11, -1), 0);
    due("no shape any more", x.stands(0), -1);
    due("the other is", x.stands(3), 0);
    due("shape 4", x.shape(4, 0, 0), -1);
    due("shape -1", x.shape(-1, 0, 0), -1);
    due("cell 12", x.shape(0, 12, 0), -1);
    due("cell -1", x.shape(0, -1, 99), -1);
    due("number 10", x.shape(0, 0, 10), -2);
    due("number -2", x.shape(0, 0, -2), -2);
    due("nothing came of it", x.told(100), -1);
  }

  private static void promise6and7() {
    promise = 6;
    FogCuts x = new FogCuts();
    int[] out = {32, 127, 0, -1, LEAST, MOST, 46 + 65536};
    for (int sign : out) due("say " + sign, x.say(sign), -2);
    for (int i = 1; i <= 60; i++) due("sign " + i, x.say(i % 2 == 0 ? 33 : 126), i);
    due("full", x.say(46), -4);
    due("full, outside first", x.say(32), -2);
    due("signs", x.told(0), 60);
    promise = 7;
    due("there were", x.wipe(), 60);
    due("there are none", x.wipe(), 0);
    due("signs", x.told(0), 0);
    due("room again", x.say(46), 1);
  }

  private static void promise8() {
    promise = 8;
    FogCuts x = new FogCuts();
    Object[][] nights = {{"", -6}, {".", -6}, {".^>_<~", -6}, {"a0", -6}, {"l9", -6}, {"a+", -6}, {"a*", -6}, {"a", 1},
        {"..a", 3}, {"m0", 0}, {".m", 1}, {"a5m", 2}, {"aa", 1}, {"a.", 1}, {"a-", 1}, {"a:", 1}, {"a/", 1}, {"A0", 0},
        {"+", 0}, {"*", 0}, {"5", 0}, {"a55", 2}, {"a+*", 2}, {"!", 0}, {".a*b+c3~d", 9}, {"a3b", 3}, {"`0", 0}, {"z", 0},
        {"a)", 1}, {"a,", 1}, {"v", 0}, {"=", 0}, {"}", 0}, {"|.", 0}, {"?", 0}, {"-", 0}, {"/", 0}, {"]", 0}};
    for (Object[] night : nights) {
      pad(x, (String) night[0]);
      due("fault of " + night[0], x.fault(), (Integer) night[1]);
    }
    pad(x, "x0");
    x.bank(4, 6);
    due("x is a cell of 24", x.fault(), -6);
    x.bank(4, 5);
    due("x is none of 20", x.fault(), 0);
    x.bank(1, 1);
    pad(x, "a+b+");
    due("b is none of 1", x.fault(), 2);
    FogCuts y = new FogCuts();
    for (int i = 0; i < 59; i++) y.say('.');
    y.say('a');
    due("a full pad that ends too early", y.fault(), 60);
  }

  private static void promise9() {
    promise = 9;
    FogCuts x = of(1, 3, "590");
    Object[][] nights = {{"", -6, -6}, {"a5", 0, 1}, {"a4", -6, -6}, {"a6", 0, 1}, {"b+", 0, 2}, {"a+", -6, -6}, {"c0", 0, 1},
        {"..b+", 2, 2}, {"a0a0", 1, 1}, {".c*c*c+c0c0b+", 5, 1}, {"a+a+a+a+a+", 4, 2}, {"b8b+b+", 2, 2}, {"b*.b+b+b+", 4, 2},
        {"b9", 0, 1}, {"a9", 0, 1}, {"b*b*.b+", 3, 2}, {"~a6a6", 2, 1}};
    for (Object[] night : nights) {
      pad(x, (String) night[0]);
      due("judge(0) of " + night[0], x.judge(0), (Integer) night[1]);
      due("judge(1) of " + night[0], x.judge(1), (Integer) night[2]);
    }
    dueFog("nothing is done", fog(x), "590");
    due("nor lit", x.told(5), 0);
    pad(x, "a0a");
    due("a fault", x.judge(0), -5);
    due("a fault", x.judge(1), -5);
    due("outside first", x.judge(2), -2);
    due("outside", x.judge(-1), -2);
  }

  private static void promise10() {
    promise = 10;
    FogCuts x = of(1, 3, "590");
    due("nothing", x.done(), 0);
    pad(x, "a3c+b*.");
    due("parts", x.done(), 4);
    dueFog("done", fog(x), "270");
    due("lit", x.told(5), 2);
    due("the pad is empty", x.told(0), 0);
    pad(x, "a0b9");
    due("can not be", x.done(), -5);
    dueFog("not even in part", fog(x), "270");
    due("the pad stays", x.told(0), 4);
    pad(x, "a0?");
    due("a fault", x.done(), -5);
    dueFog("not even in part", fog(x), "270");
    pad(x, "b*.");
    due("out", x.done(), 2);
    due("not lit", x.told(5), 0);
    dueFog("nothing melts", fog(x), "270");
  }

  private static void promise11() {
    promise = 11;
    FogCuts x = of(2, 2, "1234");
    x.cell(3, 1, 1);
    pad(x, "a0d*");
    due("thick", x.state(3, 0), 4);
    due("lamp", x.state(3, 1), 1);
    due("no lamp", x.state(2, 1), 0);
    due("no cell", x.state(4, 0), -1);
    due("no cell first", x.state(-1, 7), -1);
    due("what 2", x.state(0, 2), -2);
    due("what -1", x.state(0, -1), -2);
  }

  private static void promise12() {
    promise = 12;
    FogCuts x = of(2, 2, "1234");
    pad(x, "d*c+.");
    due("thick", x.behind(3, 0), 2);
    due("beside a lamp", x.behind(2, 0), 3);
    due("lamp", x.behind(3, 1), 1);
    due("no lamp", x.behind(0, 1), 0);
    due("nothing is done", x.state(3, 0), 4);
    due("nor lit", x.told(5), 0);
    due("and asked again", x.behind(3, 0), 2);
    due("no cell", x.behind(4, 0), -1);
    due("no cell first", x.behind(-1, 9), -1);
    due("what 2", x.behind(0, 2), -2);
    due("what -1", x.behind(0, -1), -2);
    pad(x, "a1");
    due("can not be", x.behind(0, 0), -5);
    due("outside first", x.behind(0, 2), -2);
    pad(x, "a");
    due("a fault", x.behind(0, 1), -5);
    pad(x, "");
    due("behind nothing", x.behind(3, 0), 4);
  }

  /** What an hour does: term 1. */
  private static void hours() {
    promise = 12;
    dueFog("still", fogBehind(of(3, 3, "012345678"), "."), "012345678");
    dueFog("to the north", fogBehind(of(3, 3, "012345678"), "^"), "112345567");
    dueFog("to the less thick alone", fogBehind(of(1, 4, "2233"), ">"), "2232");
    dueFog("all at once", fogBehind(of(1, 5, "54321"), ">"), "44321");
    dueFog("west at the edge", fogBehind(of(1, 2, "50"), "<"), "40");
    dueFog("the edge has none", fogBehind(of(1, 2, "01"), "<"), "10");
    dueFog("east at the edge", fogBehind(of(2, 2, "0405"), ">"), "0304");
    dueFog("south at the edge", fogBehind(of(2, 2, "0045"), "_"), "0034");
    dueFog("north at the edge", fogBehind(of(2, 2, "4500"), "^"), "3400");
    dueFog("not into the next row", fogBehind(of(2, 2, "0900"), ">"), "0800");
    dueFog("nor into the row before", fogBehind(of(2, 2, "0090"), "<"), "0080");
    dueFog("one row down", fogBehind(of(3, 2, "900000"), "_"), "801000");
    dueFog("one row up", fogBehind(of(3, 2, "000009"), "^"), "000108");
    dueFog("one cell, each wind", fogBehind(of(1, 1, "9"), "^>_<"), "5");
    dueFog("river", fogBehind(of(2, 3, "180008"), "~"), "380208");
    dueFog("river, 9 at most", fogBehind(of(2, 1, "89"), "~"), "99");
    dueFog("river, one column", fogBehind(of(3, 1, "000"), "~~~~~"), "999");
    FogCuts x = of(2, 3, "999999");
    x.set(0, 1);
    x.cell(0, 1, 1);
    dueFog("a lamp", fogBehind(x, "."), "789899");
    dueFog("a lamp, then the river", fogBehind(x, "~"), "889999");
    x.cell(1, 1, 1);
    dueFog("lamps beside each other", fogBehind(x, "."), "778889");
    FogCuts y = of(1, 4, "1120");
    y.cell(1, 1, 1);
    dueFog("0 at least", fogBehind(y, "."), "0010");
    dueFog("a lamp, then the wind", fogBehind(y, ">"), "0001");
    y.cell(3, 1, 1);
    y.cell(2, 0, 9);
    dueFog("two beside it take no more than one", fogBehind(y, "."), "0080");
    dueFog("put out by the night", fogBehind(y, "d*b*.."), "1190");
    dueFog("lit by the night", fogBehind(y, "d*b*c*."), "1070");
  }

  private static void promise13() {
    promise = 13;
    FogCuts x = of(1, 3, "590");
    due("none", x.stands(0), -1);
    due("shape 4", x.stands(4), -1);
    due("shape -1", x.stands(-1), -1);
    x.shape(0, 0, 6);
    due("one less", x.stands(0), 1);
    x.shape(0, 0, 4);
    due("one more", x.stands(0), 1);
    x.shape(0, 0, 7);
    due("two less", x.stands(0), 0);
    x.shape(0, 0, 3);
    due("two more", x.stands(0), 0);
    x.set(1, 2);
    due("slack 2", x.stands(0), 1);
    x.shape(0, 1, 6);
    due("each of these", x.stands(0), 0);
    x.set(1, 3);
    due("slack 3", x.stands(0), 1);
    x.set(1, 0);
    x.shape(3, 2, 0);
    due("slack 0", x.stands(3), 1);
    x.shape(3, 2, 1);
    due("slack 0, one less", x.stands(3), 0);
  }

  private static void promise14() {
    promise = 14;
    FogCuts x = of(1, 2, "50");
    x.set(1, 0);
    x.shape(0, 0, 4);
    x.shape(1, 0, 5);
    due("before anything it is not asked", x.lost(0), -6);
    Object[][] nights = {{"", -6, -6}, {"a4", -6, 0}, {".a4", 0, 1}, {">", -6, 0}, {".>", 0, 1}, {"a4a+", 1, 0}, {"a4..a3..a+", 3, 0},
        {"b+b*b*.", 0, -6}, {"a+a5", 0, 0}, {"a5", -5, -5}, {"b+>b9", -5, -5}, {"b", -5, -5}, {"a4..b+b+b+a*", -6, 0}, {"..<", 0, 2}};
    for (Object[] night : nights) {
      pad(x, (String) night[0]);
      due("lost(0) of " + night[0], x.lost(0), (Integer) night[1]);
      due("lost(1) of " + night[0], x.lost(1), (Integer) night[2]);
    }
    pad(x, "?");
    due("none first", x.lost(2), -1);
    due("shape 4", x.lost(4), -1);
    due("shape -1", x.lost(-1), -1);
  }

  private static void promise15() {
    promise = 15;
    due("all", new FogCuts().through(), 7);
    due("four rows", of(4, 6, "").through(), 15);
    due("none", of(2, 2, "1001").through(), 0);
    due("the last cell of a row", of(3, 3, "000001000").through(), 5);
    due("the first", of(3, 3, "100000900").through(), 2);
    due("one cell", of(1, 1, "0").through(), 1);
    due("one thick cell", of(1, 1, "1").through(), 0);
  }

  private static void promise16() {
    promise = 16;
    FogCuts x = of(1, 4, "5920");
    x.shape(0, 0, 5);
    due("stands", x.carved(0), 0);
    x.shape(0, 1, 8);
    due("stands by slack", x.carved(0), 0);
    x.shape(0, 1, 0);
    due("one cut", x.carved(0), 1);
    x.shape(0, 3, 9);
    due("each + is one", x.carved(0), 9);
    x.set(1, 0);
    due("no slack", x.carved(0), 10);
    x.shape(0, 2, 1);
    due("two cuts", x.carved(0), 11);
    x.set(1, 3);
    due("slack 3", x.carved(0), 7);
    due("none", x.carved(1), -1);
    due("shape 4", x.carved(4), -1);
    due("shape -1", x.carved(-1), -1);
    dueFog("nothing is done", fog(x), "5920");
  }

  private static void dueNowThen(FogCuts x, String night, int many, int bits) {
    pad(x, night);
    due("how many behind " + night, x.nowThen(0, 0), many);
    due("which behind " + night, x.nowThen(0, 1), bits);
  }

  private static void promise17() {
    promise = 17;
    FogCuts x = of(1, 2, "22");
    x.set(1, 0);
    x.shape(0, 0, 1);
    x.shape(0, 1, 1);
    dueNowThen(x, "", 2, 3);
    dueNowThen(x, ">", 1, 1);
    dueNowThen(x, "<", 1, 1);
    dueNowThen(x, ">>>>>", -6, -6);
    dueFog("nothing is done", fog(x), "22");
    x.shape(0, 0, 2);
    dueNowThen(x, ">", 0, 0);
    dueNowThen(x, "..", 1, 2);
    x.shape(0, 1, 9);
    dueNowThen(x, "", -6, -6);
    FogCuts y = of(1, 2, "50");
    y.set(1, 0);
    y.shape(0, 1, 0);
    dueNowThen(y, ">", -6, -6);
    y.shape(0, 0, 0);
    dueNowThen(y, ">", 1, 1);
    y.shape(0, 0, 1);
    dueNowThen(y, ">.", -6, -6);
    y.shape(0, 1, 1);
    dueNowThen(y, ">.", 1, 1);
    y.shape(0, 1, 9);
    dueNowThen(y, ">.", -6, -6);
    FogCuts z = of(2, 2, "9999");
    z.shape(0, 3, 1);
    z.shape(0, 1, 2);
    z.shape(0, 2, 3);
    dueNowThen(z, "...", 3, 14);
    z.shape(0, 0, 9);
    dueNowThen(z, "", -4, -4);
    dueNowThen(z, "a0", -5, -5);
    dueNowThen(z, "a", -5, -5);
    due("outside first", z.nowThen(0, 2), -2);
    due("outside", z.nowThen(0, -1), -2);
    due("none first", z.nowThen(1, 2), -1);
    due("shape 4", z.nowThen(4, 0), -1);
    due("shape -1", z.nowThen(-1, 0), -1);
  }

  private static void dueDark(FogCuts x, String night, int many, int bits) {
    pad(x, night);
    due("how many behind " + night, x.dark(0, 0), many);
    due("which behind " + night, x.dark(0, 1), bits);
  }

  private static void promise18() {
    promise = 18;
    FogCuts x = of(1, 3, "555");
    x.set(1, 0);
    x.cell(0, 1, 1);
    x.cell(2, 1, 1);
    x.shape(0, 1, 5);
    dueDark(x, "", 0, 0);
    dueDark(x, ".", 2, 5);
    x.shape(0, 1, 4);
    dueDark(x, ".", 0, 0);
    x.shape(0, 0, 5);
    dueDark(x, ".", 1, 1);
    x.shape(0, 0, 6);
    dueDark(x, ".", -6, -6);
    due("nothing is put out", x.told(5), 5);
    FogCuts y = of(1, 2, "55");
    y.set(1, 0);
    y.cell(0, 1, 1);
    y.cell(1, 1, 1);
    y.shape(0, 0, 3);
    y.shape(0, 1, 3);
    dueDark(y, ">", 1, 1);
    FogCuts z = of(3, 3, "999999999");
    for (int cell = 1; cell < 9; cell++) z.cell(cell, 1, 1);
    z.set(1, 0);
    z.shape(0, 4, 9);
    dueDark(z, ".", 5, 2 + 8 + 16 + 32 + 128);
    z.cell(0, 1, 1);
    dueDark(z, ".", -4, -4);
    dueDark(z, "a*", -5, -5);
    dueDark(z, "a", -5, -5);
    due("outside first", z.dark(0, 2), -2);
    due("outside", z.dark(0, -1), -2);
    due("none first", z.dark(1, 2), -1);
    due("shape 4", z.dark(4, 0), -1);
    due("shape -1", z.dark(-1, 0), -1);
  }

  private static void dueMoved(FogCuts x, int shape, int many, int by) {
    due("how many, shape " + shape, x.moved(shape, 0), many);
    due("by how much, shape " + shape, x.moved(shape, 1), by);
  }

  private static void promise19() {
    promise = 19;
    FogCuts x = of(2, 3, "300005");
    x.set(1, 0);
    x.shape(0, 0, 5);
    dueMoved(x, 0, 0, 407);
    x.shape(1, 5, 3);
    dueMoved(x, 1, 0, 203);
    x.shape(2, 0, 3);
    x.shape(2, 2, 0);
    dueMoved(x, 2, 0, 305);
    x.shape(3, 3, 3);
    x.shape(3, 4, 9);
    dueMoved(x, 3, 7, 306);
    x.set(1, 3);
    dueMoved(x, 0, 0, 305);
    dueMoved(x, 1, 0, 203);
    FogCuts y = new FogCuts();
    y.shape(0, 5, 0);
    dueMoved(y, 0, 0, 204);
    y.shape(0, 11, 1);
    dueMoved(y, 0, 0, 204);
    y.shape(0, 0, 1);
    dueMoved(y, 0, 0, 305);
    FogCuts z = of(4, 6, "");
    z.cell(0, 0, 9);
    z.shape(0, 23, 9);
    dueMoved(z, 0, 0, 0);
    z.cell(0, 0, 0);
    z.cell(23, 0, 9);
    z.shape(0, 23, -1);
    z.shape(0, 0, 9);
    dueMoved(z, 0, 0, 610);
    due("none first", z.moved(1, 2), -1);
    due("shape 4", z.moved(4, 0), -1);
    due("shape -1", z.moved(-1, 0), -1);
    due("outside", z.moved(0, 2), -2);
    due("outside", z.moved(0, -1), -2);
  }

  private static void promise20() {
    promise = 20;
    FogCuts x = new FogCuts();
    due("none", x.apart(-1), 0);
    x.shape(0, 4, 1);
    x.shape(1, 4, 3);
    due("twice slack is not more", x.apart(-1), 0);
    x.shape(1, 4, 4);
    due("one more is", x.apart(-1), 1);
    due("they are", x.apart(0), 1);
    x.shape(3, 4, 9);
    x.shape(2, 5, 9);
    int[] twos = {1, 3, 13};
    due("three", x.apart(-1), 3);
    for (int i = 0; i < 3; i++) due("two " + i, x.apart(i), twos[i]);
    due("no fourth", x.apart(3), -6);
    x.shape(2, 4, 0);
    int[] more = {1, 3, 12, 13, 23};
    due("five", x.apart(-1), 5);
    for (int i = 0; i < 5; i++) due("two " + i, x.apart(i), more[i]);
    due("below -1", x.apart(-2), -6);
    due("far below", x.apart(LEAST), -6);
    due("far above", x.apart(MOST), -6);
    x.set(1, 3);
    due("slack 3", x.apart(-1), 2);
    x.set(1, 0);
    due("slack 0", x.apart(-1), 6);
    x.shape(1, 4, 1);
    due("slack 0, the same number", x.apart(-1), 5);
    FogCuts y = new FogCuts();
    y.shape(0, 0, 0);
    y.shape(1, 0, 9);
    y.shape(2, 11, 0);
    y.shape(3, 11, 9);
    due("the first cell", y.apart(0), 1);
    due("the last cell", y.apart(1), 23);
  }

  private static void dueWalk(FogCuts x, int from, int to, int spoilt, int steps, int first) {
    due("spoilt from " + from + " to " + to, x.walk(from, to, 0), spoilt);
    due("steps from " + from + " to " + to, x.walk(from, to, 1), steps);
    due("first from " + from + " to " + to, x.walk(from, to, 2), first);
  }

  private static void promise21() {
    promise = 21;
    FogCuts x = of(3, 3, "999000000");
    dueWalk(x, 0, 8, 0, 4, 1);
    dueWalk(x, 8, 0, 0, 4, 5);
    dueWalk(x, 4, 4, 0, 0, -6);
    x.shape(0, 1, 5);
    dueWalk(x, 1, 2, 1, 1, 2);
    x.shape(2, 1, 9);
    x.shape(1, 4, 0);
    dueWalk(x, 0, 2, 0, 6, 3);
    x.shape(1, 7, 0);
    dueWalk(x, 0, 2, 1, 2, 1);
    dueWalk(x, 3, 5, 1, 2, 4);
    dueWalk(x, 6, 2, 1, 4, 3);
    dueWalk(x, 1, 1, 1, 0, -6);
    dueWalk(x, 1, 7, 2, 4, 0);
    dueWalk(x, 1, 0, 1, 1, 0);
    dueWalk(x, 0, 1, 1, 1, 1);
    dueWalk(of(1, 6, ""), 5, 1, 0, 4, 4);
    dueWalk(of(4, 1, ""), 0, 3, 0, 3, 1);
    dueWalk(of(4, 6, ""), 23, 0, 0, 8, 17);
    due("no cell to begin", x.walk(9, 0, 3), -1);
    due("no cell to end", x.walk(0, -1, 0), -1);
    due("what 3", x.walk(0, 0, 3), -2);
    due("what -1", x.walk(0, 0, -1), -2);
  }

  private static void dueCrews(FogCuts x, int set, int wins, int cut) {
    due("wins " + set, x.wins(set), wins);
    due("cut " + set, x.cut(set), cut);
  }

  private static void promise22and23() {
    promise = 22;
    FogCuts x = of(1, 4, "3570");
    dueCrews(x, 0, 1, -6);
    dueCrews(x, 8, 1, -6);
    dueCrews(x, 1, 0, 0);
    dueCrews(x, 2, 0, 10);
    dueCrews(x, 3, 0, 13);
    dueCrews(x, 5, 0, 23);
    dueCrews(x, 7, 0, 2);
    dueCrews(x, 15, 0, 2);
    x.cell(0, 0, 2);
    dueCrews(x, 7, 1, -6);
    dueCrews(x, 16, -2, -2);
    dueCrews(x, -1, -2, -2);
    dueCrews(x, MOST, -2, -2);
    dueCrews(x, LEAST, -2, -2);
    dueFog("nothing is cut", fog(x), "2570");
    FogCuts y = of(4, 6, "");
    y.cell(23, 0, 9);
    dueCrews(y, (1 << 24) - 1, 0, 230);
    dueCrews(y, 1 << 24, -2, -2);
  }

  private static void promise24and25() {
    promise = 24;
    FogCuts x = new FogCuts();
    for (int i = 1; i <= 8; i++) due("sight " + i, x.seen(i, 9), i);
    due("full", x.seen(0, 0), -4);
    due("outside first", x.seen(0, 10), -2);
    due("outside", x.seen(0, -1), -2);
    due("no cell first", x.seen(12, 10), -1);
    due("no cell", x.seen(-1, 0), -1);
    due("sights", x.told(6), 8);
    promise = 25;
    due("there were", x.forget(), 8);
    due("there are none", x.forget(), 0);
    due("sights", x.told(6), 0);
    due("room again", x.seen(11, 0), 1);
  }

  private static void dueWhat(FogCuts x, String night, int where, int... all) {
    pad(x, night);
    due("how many behind " + night, x.what(-1), all.length);
    for (int i = 0; i < all.length; i++) due("the " + i + " behind " + night, x.what(i), all[i]);
    due("no more behind " + night, x.what(all.length), -6);
    due("below -1 behind " + night, x.what(-2), -6);
    due("far off behind " + night, x.what(MOST), -6);
    due("far below behind " + night, x.what(LEAST), -6);
    due("cells behind " + night, x.where(), where);
  }

  private static void promise26and27() {
    promise = 26;
    FogCuts x = of(1, 3, "302");
    dueWhat(x, "", 5, 0, 1, 2, 20, 21);
    x.seen(0, 1);
    dueWhat(x, "", 1, 1);
    x.seen(0, 2);
    dueWhat(x, "", 0);
    FogCuts y = of(1, 2, "32");
    y.seen(1, 1);
    dueWhat(y, ">", 3, 0, 1, 2, 10, 11);
    y.seen(0, 2);
    dueWhat(y, ">", 3, 2, 10, 11);
    y.forget();
    y.seen(0, 3);
    y.seen(1, 2);
    dueWhat(y, "", 0);
    y.forget();
    y.seen(0, 9);
    y.set(0, 5);
    dueWhat(y, "~~", 3, 0, 1, 2, 10, 11);
    dueFog("nothing is cut", fog(y), "32");
    String[] nights = {"a0", "a", "?", "..a+", "a*"};
    for (String night : nights) {
      pad(y, night);
      due("how many behind " + night, y.what(-1), -5);
      due("the first behind " + night, y.what(0), -5);
      due("below -1 behind " + night, y.what(-2), -5);
      due("cells behind " + night, y.where(), -5);
    }
  }

  private static void dueChance(FogCuts x, int shape, int t, int m, long upper, long lower) {
    due("upper of " + shape + " " + t + " " + m, x.chance(shape, t, m, 0), upper);
    due("lower of " + shape + " " + t + " " + m, x.chance(shape, t, m, 1), lower);
  }

  private static void promise28() {
    promise = 28;
    FogCuts x = of(1, 2, "10");
    pad(x, "a");
    x.set(1, 0);
    x.shape(0, 0, 1);
    x.shape(1, 1, 1);
    dueChance(x, 0, 3, 2, 49, 100);
    dueChance(x, 1, 3, 2, 21, 50);
    dueChance(x, 1, 5, 2, 1, 2);
    dueChance(x, 0, 3, 8, 5764801, 100000000);
    dueChance(x, 0, 5, 8, 1, 256);
    dueChance(x, 0, 8, 8, 1, 390625);
    dueChance(x, 0, 0, 8, 1, 1);
    dueChance(x, 0, 10, 8, 0, 1);
    dueChance(x, 0, 10, 0, 1, 1);
    dueChance(x, 1, 4, 0, 0, 1);
    dueChance(x, 1, 10, 1, 1, 1);
    x.cell(0, 1, 1);
    dueChance(x, 0, 0, 1, 0, 1);
    dueFog("nothing is done", fog(x), "10");
    long none = -1000000000000000001L, outside = -1000000000000000002L;
    dueChance(x, 2, 99, 0, none, none);
    dueChance(x, 4, 0, 0, none, none);
    dueChance(x, -1, 0, 0, none, none);
    dueChance(x, 0, 11, 0, outside, outside);
    dueChance(x, 0, -1, 0, outside, outside);
    dueChance(x, 0, 0, 9, outside, outside);
    dueChance(x, 0, 0, -1, outside, outside);
    due("part 2", x.chance(0, 0, 0, 2), outside);
    due("part -1", x.chance(0, 0, 0, -1), outside);
  }

  private static void promise29() {
    promise = 29;
    FogCuts x = of(2, 1, "30");
    x.set(1, 0);
    x.shape(0, 0, 2);
    int[][] want = {{3, 0, 2}, {2, 1, 2}, {6, 2, 3}, {6, 3, 3}};
    for (int m = 1; m <= 4; m++) {
      for (int what = 0; what < 3; what++) due("year(0, " + m + ", " + what + ")", x.year(0, m, what), want[m - 1][what]);
    }
    x.shape(3, 1, 1);
    due("some shape", x.year(0, 1, 1), 0);
    x.shape(3, 1, 2);
    due("another shape fell", x.year(0, 1, 1), 1);
    x.shape(0, 0, -1);
    x.shape(3, 1, -1);
    due("no shape, none fell", x.year(0, 4, 1), 0);
    dueFog("nothing is done", fog(x), "30");
    due("the last seed", x.year(9999, 99, 1), 0);
    due("no fog, the most", of(1, 1, "0").year(0, 2, 2), 0);
    due("no fog, together", of(1, 1, "0").year(0, 2, 0), 0);
    int[][] out = {{-1, 1, 0}, {10000, 1, 0}, {0, 0, 0}, {0, 100, 0}, {0, 1, 3}, {0, 1, -1}, {MOST, MOST, 0}, {LEAST, 5, 0}};
    for (int[] y : out) due("year " + y[0] + " " + y[1] + " " + y[2], x.year(y[0], y[1], y[2]), -2);
  }

  private static void promise30and31() {
    promise = 31;
    FogCuts x = of(2, 2, "1234");
    x.cell(3, 1, 1);
    x.set(0, 4);
    x.set(1, 2);
    x.shape(1, 2, 7);
    x.seen(0, 1);
    pad(x, ".");
    due("kept", x.image(0), 1);
    due("the other was not", x.restore(1), -3);
    due("outside", x.image(2), -2);
    due("outside", x.image(-1), -2);
    due("outside", x.restore(2), -2);
    due("outside", x.restore(-1), -2);
    x.cell(0, 0, 9);
    due("also the other", x.image(1), 1);
    x.bank(4, 6);
    x.cell(23, 0, 1);
    x.cell(0, 1, 1);
    x.shape(0, 5, 5);
    pad(x, "..x+");
    due("restored", x.restore(0), 1);
    int[] want = {4, 2, 2, 4, 2, 8, 1, 10};
    for (int what = 0; what < 8; what++) due("told " + what, x.told(what), want[what]);
    due("wanted", x.told(202), 7);
    due("no shape 0", x.stands(0), -1);
    due("the pad is as it was", x.fault(), 2);
    pad(x, "");
    due("the sight is as it was", x.what(-1), 9);
    dueFog("lamps melt as they did", fogBehind(x, "."), "1122");
    due("the other is another", x.restore(1), 1);
    dueFog("the other", fog(x), "9234");
    pad(x, "d*");
    x.done();
    x.cell(1, 0, 0);
    x.forget();
    due("and once more", x.restore(1), 1);
    dueFog("as it was", fog(x), "9234");
    due("lit", x.told(5), 8);
    due("seen", x.told(6), 1);
    x.cell(0, 0, 5);
    due("kept anew", x.image(1), 1);
    x.cell(0, 0, 0);
    due("restored anew", x.restore(1), 1);
    dueFog("as it was anew", fog(x), "5234");
    due("the first is as it was", x.restore(0), 1);
    dueFog("the first", fog(x), "1234");
  }

  private static void promise32() {
    promise = 32;
    FogCuts x = of(4, 6, "");
    pad(x, "a?b");
    x.set(0, 3);
    x.set(1, 0);
    x.cell(23, 1, 1);
    x.cell(0, 1, 1);
    x.cell(22, 0, 9);
    x.cell(1, 0, 8);
    x.seen(3, 3);
    x.seen(3, 3);
    int[] want = {3, 4, 6, 3, 0, 8388609, 2, 17};
    for (int what = 0; what < 8; what++) due("told " + what, x.told(what), want[what]);
    x.shape(0, 0, 0);
    x.shape(3, 23, 9);
    due("wanted 0", x.told(100), 0);
    due("not wanted", x.told(101), -1);
    due("the last", x.told(423), 9);
    int[] out = {8, 9, 23, 99, 124, 199, 424, 500, 523, 1000, -1, -99, -100, -101, LEAST, MOST};
    for (int what : out) due("told " + what, x.told(what), -2);
    x.bank(1, 2);
    due("not wanted any more", x.told(100), -1);
    due("a cell of two", x.told(401), -1);
    due("no cell of two", x.told(402), -2);
  }

  public static void main(String[] args) {
    promise1();
    promise2();
    promise3();
    promise4();
    promise5();
    promise6and7();
    promise8();
    promise9();
    promise10();
    promise11();
    promise12();
    hours();
    promise13();
    promise14();
    promise15();
    promise16();
    promise17();
    promise18();
    promise19();
    promise20();
    promise21();
    promise22and23();
    promise24and25();
    promise26and27();
    promise28();
    promise29();
    promise30and31();
    promise32();
    System.out.println(wrong == 0 ? "all promises are kept" : wrong + " answers are not as due");
    if (wrong != 0) System.exit(1);
  }
}
