import java.io.IOException;
import java.nio.file.Files;
import java.nio.file.Path;

/** Of each sentence of the document that names a boundary case, a test of its own: first the sentence, then what it asks. */
public final class FogCutsSentences {
  private static final int NONE = -6, UNKNOWN = -1, OUTSIDE = -2, STATE = -3, FULL = -4, NO = -5;
  private static final int LEAST = Integer.MIN_VALUE, MOST = Integer.MAX_VALUE;
  private static int wrong = 0, sentences = 0;
  private static String sentence = "", document = "";

  /** What is asked from here on is asked by these words of the document. */
  private static void sentence(String words) {
    sentence = words;
    sentences++;
    if (!document.isEmpty() && !document.contains(words)) tell("these words do not stand in the document");
  }
  private static void tell(String what) { wrong++; System.out.println("\"" + sentence + "\": " + what); }
  private static void due(String what, long got, long want) {
    if (got != want) tell(what + " answered " + got + ", due is " + want);
  }
  private static void dueFog(String what, String got, String want) {
    if (!got.equals(want)) tell(what + ": " + got + ", due is " + want);
  }

  private static FogCuts of(int rows, int columns, String thick) {
    FogCuts x = new FogCuts();
    x.bank(rows, columns);
    for (int cell = 0; cell < thick.length(); cell++) x.cell(cell, 0, thick.charAt(cell) - '0');
    return x;
  }
  private static FogCuts lit(FogCuts x, String letters) {
    for (char letter : letters.toCharArray()) x.cell(letter - 'a', 1, 1);
    return x;
  }
  /** The same, with this slack, and with a shape that wants these: "a5c0" is a to be 5 and c to be 0. */
  private static FogCuts wants(FogCuts x, int slack, int shape, String wishes) {
    x.set(1, slack);
    for (int i = 0; i < wishes.length(); i += 2) x.shape(shape, wishes.charAt(i) - 'a', wishes.charAt(i + 1) - '0');
    return x;
  }
  private static FogCuts pad(FogCuts x, String night) {
    x.wipe();
    for (char sign : night.toCharArray()) x.say(sign);
    return x;
  }
  private static String fog(FogCuts x) {
    StringBuilder out = new StringBuilder();
    for (int cell = 0; cell < x.told(1) * x.told(2); cell++) out.append(x.state(cell, 0));
    return out.toString();
  }
  private static String behind(FogCuts x, String night) {
    pad(x, night);
    StringBuilder out = new StringBuilder();
    for (int cell = 0; cell < x.told(1) * x.told(2); cell++) out.append(x.behind(cell, 0));
    return out.toString();
  }
  private static String times(String sign, int count) { return sign.repeat(count); }

  // ---- ahead of 1

  private static void calls512() {
    sentence("An object is used for at most 512 calls after it has been made");
    FogCuts x = new FogCuts();
    for (int call = 1; call <= 512; call++) due("call " + call, x.cell(0, 0, call % 10), (call - 1) % 10);
    FogCuts y = new FogCuts();
    for (int call = 1; call <= 512; call++) due("image, call " + call, y.image(call % 2), 1);
    FogCuts z = of(4, 6, times("5", 24));
    for (int call = 26; call <= 512; call++) due("year, call " + call, z.year(2, 1, 0), 120 - 6);
  }
  private static void noSuchCell() {
    sentence("UNKNOWN -1 (there is no such CELL, SHAPE)");
    for (int rows = 1; rows <= 4; rows++) {
      for (int columns = 1; columns <= 6; columns++) {
        FogCuts x = of(rows, columns, "");
        String what = " of " + rows + " by " + columns;
        due("the last cell" + what, x.state(rows * columns - 1, 0), 0);
        due("the one behind it" + what, x.state(rows * columns, 0), UNKNOWN);
        due("the one ahead of 0" + what, x.state(-1, 0), UNKNOWN);
        due("the last possible" + what, x.state(MOST, 0), UNKNOWN);
        due("the first possible" + what, x.state(LEAST, 0), UNKNOWN);
      }
    }
  }
  private static void noSuchShape() {
    sentence("UNKNOWN -1 (there is no such CELL, SHAPE)");
    FogCuts x = new FogCuts();
    due("shape 0", x.shape(0, 0, 0), 1);
    due("shape 3", x.shape(3, 0, 0), 1);
    due("shape 4", x.shape(4, 0, 0), UNKNOWN);
    due("shape -1", x.shape(-1, 0, 0), UNKNOWN);
    due("the last possible", x.shape(MOST, 0, 0), UNKNOWN);
    due("the first possible", x.shape(LEAST, 0, 0), UNKNOWN);
  }
  private static void firstThatFits() {
    sentence("Calls that are refused answer, the first of these that fits");
    FogCuts x = pad(of(2, 2, "5555"), "a9");
    for (int cell = 0; cell < 4; cell++) x.shape(0, cell, 5);
    due("UNKNOWN ahead of OUTSIDE", x.state(4, 2), UNKNOWN);
    due("UNKNOWN ahead of OUTSIDE and NO", x.behind(4, 2), UNKNOWN);
    due("UNKNOWN ahead of NO", x.lost(1), UNKNOWN);
    due("OUTSIDE ahead of NO", x.behind(0, 2), OUTSIDE);
    due("NO alone", x.behind(0, 0), NO);
    due("OUTSIDE ahead of NO and FULL", x.nowThen(0, 2), OUTSIDE);
    due("NO ahead of FULL", x.nowThen(0, 0), NO);
    x.wipe();
    due("FULL alone", x.nowThen(0, 0), FULL);
    due("OUTSIDE ahead of STATE", x.restore(2), OUTSIDE);
    due("STATE alone", x.restore(1), STATE);
  }
  private static void lowestTerms() {
    sentence("Fractions are told in lowest terms by part: 0 the upper, 1 the lower number");
    FogCuts x = wants(of(1, 2, "10"), 0, 0, "a1");
    int[][] all = {{0, 1, 1, 1}, {10, 1, 0, 1}, {1, 1, 9, 10}, {2, 1, 4, 5}, {5, 1, 1, 2}, {6, 1, 2, 5}, {7, 1, 3, 10}, {5, 2, 1, 4},
        {7, 2, 9, 100}, {8, 2, 1, 25}, {4, 2, 9, 25}, {5, 8, 1, 256}, {8, 8, 1, 390625}, {9, 8, 1, 100000000}, {1, 8, 43046721, 100000000}};
    for (int[] one : all) {
      due("upper of " + one[0] + " tenths, " + one[1] + " hours", x.chance(0, one[0], one[1], 0), one[2]);
      due("lower of " + one[0] + " tenths, " + one[1] + " hours", x.chance(0, one[0], one[1], 1), one[3]);
    }
  }
  private static void lostAndTheRefusal() {
    sentence("refused with LOST and the refusal");
    FogCuts x = wants(new FogCuts(), 0, 0, "a1");
    due("LOST", FogCuts.LOST, -1000000000000000000L);
    due("UNKNOWN, upper", x.chance(1, 0, 0, 0), -1000000000000000001L);
    due("UNKNOWN, lower", x.chance(1, 0, 0, 1), -1000000000000000001L);
    due("OUTSIDE, upper", x.chance(0, 11, 0, 0), -1000000000000000002L);
    due("OUTSIDE, lower", x.chance(0, 11, 0, 1), -1000000000000000002L);
  }
  private static void setsAreBits() {
    sentence("Sets of CELLS are bits.");
    FogCuts x = lit(of(4, 6, ""), "ax");
    due("the first and the last lamp", x.told(5), 1 + (1 << 23));
    x.cell(0, 0, 1);
    x.cell(23, 0, 1);
    due("cut in the first or the last", x.where(), 1 + (1 << 23));
    due("the first alone", x.cut(1), 0);
    due("the last alone", x.cut(1 << 23), 230);
    wants(x, 0, 0, "a0x0");
    due("the first and the last are to be cut", x.nowThen(0, 1), 1 + (1 << 23));
    x.cell(0, 0, 9);
    x.cell(23, 0, 9);
    wants(x, 0, 0, "a9x9");
    pad(x, ".");
    due("the first and the last are to be put out", x.dark(0, 1), 1 + (1 << 23));
  }

  // ---- 1 banks, nights

  private static void bankSizes() {
    sentence("A BANK has ROWS (1 to 4) and COLUMNS (1 to 6; 3, 4 at first)");
    FogCuts x = new FogCuts();
    due("rows at first", x.told(1), 3);
    due("columns at first", x.told(2), 4);
    for (int rows = -1; rows <= 6; rows++) {
      for (int columns = -1; columns <= 8; columns++) {
        boolean fits = rows >= 1 && rows <= 4 && columns >= 1 && columns <= 6;
        due("bank(" + rows + ", " + columns + ")", x.bank(rows, columns), fits ? rows * columns : OUTSIDE);
      }
    }
  }
  private static void cellsRowByRow() {
    sentence("CELLS row by row from 0 on (a on)");
    FogCuts x = of(4, 6, "");
    for (int cell = 0; cell < 24; cell++) {
      pad(x, (char) ('a' + cell) + "+");
      due("done, cell " + cell, x.done(), 1);
      due("thick, cell " + cell, x.state(cell, 0), 1);
      due("together, cell " + cell, x.told(7), cell + 1);
    }
    FogCuts y = of(2, 3, "");
    y.cell(3, 0, 1);
    due("cell 3 of two by three begins the second row", y.through(), 1);
  }
  private static void soThick() {
    sentence("each so THICK (0 to 9; 0 at first)");
    FogCuts x = of(4, 6, "");
    for (int cell = 0; cell < 24; cell++) due("cell " + cell + " at first", x.state(cell, 0), 0);
    due("9", x.cell(23, 0, 9), 0);
    due("10", x.cell(23, 0, 10), OUTSIDE);
    due("0", x.cell(23, 0, 0), 9);
    due("-1", x.cell(23, 0, -1), OUTSIDE);
  }
  private static void lampOrNone() {
    sentence("with a LAMP or none (none at first)");
    FogCuts x = of(4, 6, "");
    due("no lamps", x.told(5), 0);
    for (int cell = 0; cell < 24; cell++) due("cell " + cell + " at first", x.cell(cell, 1, 1), 0);
    due("all lamps", x.told(5), (1 << 24) - 1);
    for (int cell = 0; cell < 24; cell++) due("cell " + cell + " then", x.cell(cell, 1, 0), 1);
    due("no lamps again", x.told(5), 0);
  }
  private static void feed() {
    sentence("FEED (1 to 5; 2 at first)");
    FogCuts x = new FogCuts();
    due("at first", x.told(3), 2);
    due("1", x.set(0, 1), 2);
    due("0", x.set(0, 0), OUTSIDE);
    due("5", x.set(0, 5), 1);
    due("6", x.set(0, 6), OUTSIDE);
    due("it stays", x.told(3), 5);
  }
  private static void slack() {
    sentence("SLACK (0 to 3; 1 at first)");
    FogCuts x = new FogCuts();
    due("at first", x.told(4), 1);
    due("0", x.set(1, 0), 1);
    due("-1", x.set(1, -1), OUTSIDE);
    due("3", x.set(1, 3), 0);
    due("4", x.set(1, 4), OUTSIDE);
    due("it stays", x.told(4), 3);
  }
  private static void lampLosesTwo() {
    sentence("each CELL with a LAMP loses 2");
    String[] thick = {"0", "1", "2", "3", "9"}, left = {"0", "0", "0", "1", "7"};
    for (int i = 0; i < 5; i++) dueFog("of " + thick[i], behind(lit(of(1, 1, thick[i]), "a"), "."), left[i]);
    dueFog("with lamps on all sides, still 2", behind(lit(of(3, 3, times("9", 9)), "bdefh"), "."), "878777878");
  }
  private static void besideLosesOne() {
    sentence("each other CELL that has one beside it (n, e, s or w) loses 1 (0 at least)");
    dueFog("on all sides, not across", behind(lit(of(3, 3, times("5", 9)), "e"), "."), "545434545");
    dueFog("however many", behind(lit(of(3, 3, times("5", 9)), "bdfh"), "."), "434343434");
    dueFog("0 at least", behind(lit(of(1, 3, "010"), "b"), "."), "000");
    dueFog("1 gives 0", behind(lit(of(1, 3, "191"), "b"), "."), "070");
  }
  private static void besideEndsAtTheEdge() {
    sentence("each other CELL that has one beside it (n, e, s or w) loses 1 (0 at least)");
    dueFog("the end of a row is not beside the next", behind(lit(of(2, 3, "555555"), "c"), "."), "543554");
    dueFog("nor its begin beside the one before", behind(lit(of(2, 3, "555555"), "d"), "."), "455345");
    dueFog("nor the first row beside the last", behind(lit(of(4, 1, "5555"), "a"), "."), "3455");
    dueFog("nor the last beside the first", behind(lit(of(4, 1, "5555"), "d"), "."), "5543");
    dueFog("nor the first cell of a row beside its last", behind(lit(of(1, 3, "555"), "a"), "."), "345");
  }
  private static void ofAnHourWithoutLamps() {
    sentence("An HOUR: each CELL with a LAMP loses 2");
    dueFog("a still hour without lamps", behind(of(2, 2, "0919"), "."), "0919");
    dueFog("no hour, no loss", behind(lit(of(2, 2, "0919"), "abcd"), ""), "0919");
    dueFog("each hour anew", behind(lit(of(1, 2, "99"), "a"), "..."), "36");
  }
  private static void allAtOnce() {
    sentence("If it is windy (it blows to n, e, s or w), then, all at once");
    dueFog("to the east", behind(of(1, 3, "110"), ">"), "101");
    dueFog("to the west", behind(of(1, 3, "011"), "<"), "101");
    dueFog("to the south", behind(of(3, 1, "110"), "_"), "101");
    dueFog("to the north", behind(of(3, 1, "011"), "^"), "101");
  }
  private static void lessThick() {
    sentence("each CELL gives 1 to the one beside it on that side, if that one is less THICK");
    dueFog("less by one", behind(of(1, 3, "320"), ">"), "221");
    dueFog("just as thick", behind(of(1, 3, "330"), ">"), "321");
    dueFog("thicker", behind(of(1, 3, "340"), ">"), "331");
    dueFog("by 1, however much less", behind(of(1, 3, "900"), ">"), "810");
    dueFog("9 gets none of 9", behind(of(1, 3, "990"), ">"), "981");
    dueFog("west, just as thick", behind(of(1, 3, "033"), "<"), "123");
    dueFog("south, just as thick", behind(of(3, 1, "330"), "_"), "321");
    dueFog("north, just as thick", behind(of(3, 1, "033"), "^"), "123");
    dueFog("not across the end of a row", behind(of(2, 2, "0300"), ">"), "0200");
    dueFog("nor across its begin", behind(of(2, 2, "0030"), "<"), "0020");
  }
  private static void givesAwayAtTheEdge() {
    sentence("at the edge it gives 1 away, if it has any");
    for (String wind : new String[] {"^", ">", "_", "<"}) {
      dueFog("one cell of 1, " + wind, behind(of(1, 1, "1"), wind), "0");
      dueFog("one cell of 0, " + wind, behind(of(1, 1, "0"), wind), "0");
      dueFog("one cell of 9, " + wind, behind(of(1, 1, "9"), wind), "8");
    }
    dueFog("north", behind(of(2, 3, "540540"), "^"), "430540");
    dueFog("east", behind(of(2, 3, "005005"), ">"), "004004");
    dueFog("south", behind(of(2, 3, "540540"), "_"), "540430");
    dueFog("west", behind(of(2, 3, "500500"), "<"), "400400");
    dueFog("it gets one and has had none", behind(of(1, 2, "10"), ">"), "01");
    dueFog("it gets one and gives one", behind(of(1, 2, "31"), ">"), "21");
  }
  private static void lampsAheadOfWind() {
    sentence("If it is windy (it blows to n, e, s or w), then");
    dueFog("lamps take first, then it blows", behind(lit(of(1, 2, "32"), "a"), ">"), "10");
    dueFog("what a lamp took does not blow", behind(lit(of(1, 2, "20"), "a"), ">"), "00");
  }
  private static void river() {
    sentence("nobody blows, but each CELL of COLUMN 0 gets FEED more, 9 in all at most, behind what LAMPS take");
    dueFog("column 0 alone, nobody blows", behind(of(2, 3, "180008"), "~"), "380208");
    FogCuts x = of(4, 1, "3459");
    x.set(0, 5);
    dueFog("9 at most", behind(x, "~"), "8999");
    x.set(0, 1);
    dueFog("feed 1", behind(x, "~"), "4569");
    dueFog("one row of six", behind(of(1, 6, "000000"), "~"), "200000");
    dueFog("a lamp takes first, of 0", behind(lit(of(2, 1, "00"), "a"), "~"), "22");
    dueFog("a lamp takes first, of 9", behind(lit(of(2, 1, "99"), "a"), "~"), "99");
    dueFog("a lamp takes first, of 1", behind(lit(of(2, 2, "1111"), "a"), "~"), "2021");
  }
  private static void padOf60() {
    sentence("A NIGHT is a text on a PAD (60 SIGNS at most, codes 33 to 126)");
    FogCuts x = new FogCuts();
    for (int i = 1; i <= 60; i++) due("sign " + i, x.say('.'), i);
    due("sign 61", x.say('.'), FULL);
    due("signs", x.told(0), 60);
    due("none is at fault", x.fault(), NONE);
    due("all are parts", x.done(), 60);
    due("room again", x.say('.'), 1);
  }
  private static void codes() {
    sentence("A NIGHT is a text on a PAD (60 SIGNS at most, codes 33 to 126)");
    for (int from = -20; from < 300; from += 40) {
      FogCuts x = new FogCuts();
      int count = 0;
      for (int sign = from; sign < from + 40; sign++) {
        boolean fits = sign >= 33 && sign <= 126;
        count += fits ? 1 : 0;
        due("sign " + sign, x.say(sign), fits ? count : OUTSIDE);
      }
    }
    due("the last possible", new FogCuts().say(MOST), OUTSIDE);
    due("the first possible", new FogCuts().say(LEAST), OUTSIDE);
  }
  private static void hourSigns() {
    sentence("of PARTS: . (an hour that is still), ^ > _ < (windy: to n, e, s, w), ~ (the river's)");
    String[] signs = {".", "^", ">", "_", "<", "~"};
    String[] left = {"000050000", "010040000", "000041000", "000040010", "000140000", "200250200"};
    for (int i = 0; i < 6; i++) {
      dueFog("behind " + signs[i], behind(of(3, 3, "000050000"), signs[i]), left[i]);
      due("parts of " + signs[i], pad(new FogCuts(), signs[i]).done(), 1);
    }
    FogCuts x = new FogCuts();
    for (int sign = 33; sign <= 126; sign++) {
      boolean hour = ".^>_<~".indexOf(sign) >= 0;
      x.wipe();
      x.say(sign);
      due("sign " + sign + " as a night", x.fault(), hour ? NONE : sign >= 'a' && sign <= 'l' ? 1 : 0);
    }
  }
  private static void acts() {
    sentence("a CELL's letter and a digit (it is cut down to that), + (it gets 1 more), or * (its LAMP is put there, or out)");
    for (char digit = '0'; digit <= '8'; digit++) {
      dueFog("cut to " + digit, behind(of(1, 2, "99"), "b" + digit), "9" + digit);
    }
    dueFog("1 more than 0", behind(of(1, 2, "00"), "b+"), "01");
    dueFog("1 more than 8", behind(of(1, 2, "88"), "b+"), "89");
    FogCuts x = of(1, 2, "99");
    due("put there", pad(x, "b*").done(), 1);
    due("it is there", x.told(5), 2);
    due("put out", pad(x, "b*").done(), 1);
    due("it is out", x.told(5), 0);
    due("put there and out", pad(x, "b*b*").done(), 2);
    due("it is out again", x.told(5), 0);
    dueFog("an act is no hour", behind(lit(of(1, 2, "99"), "a"), "b0b+"), "91");
  }
  private static void actSigns() {
    sentence("a CELL's letter and a digit (it is cut down to that), + (it gets 1 more), or * (its LAMP is put there, or out)");
    for (int from = 33; from <= 126; from += 47) {
      FogCuts x = new FogCuts();
      for (int sign = from; sign < from + 47; sign++) {
        boolean act = sign == '+' || sign == '*' || sign >= '0' && sign <= '9';
        x.wipe();
        x.say('l');
        x.say(sign);
        due("l and sign " + sign, x.fault(), act ? NONE : 1);
      }
    }
  }
  private static void faultFromZeroOn() {
    sentence("THE FAULT: the place (from 0 on) of the first sign that can not stand there");
    FogCuts x = new FogCuts();
    due("an empty night", x.fault(), NONE);
    due("the first sign", pad(x, "?").fault(), 0);
    due("the second", pad(x, ".?").fault(), 1);
    due("the first of two", pad(x, ".?.!").fault(), 1);
    due("a digit without a cell", pad(x, "0").fault(), 0);
    due("a second digit", pad(x, "a00").fault(), 2);
    due("a hand without a cell", pad(x, "+").fault(), 0);
    due("a lamp without a cell", pad(x, "..*").fault(), 2);
    due("an hour behind a letter", pad(x, "a.").fault(), 1);
    due("a letter behind a letter", pad(x, "ab").fault(), 1);
    due("the last of 60", pad(x, times(".", 59) + "?").fault(), 59);
    due("a capital", pad(x, "A0").fault(), 0);
  }
  private static void faultOfALetter() {
    sentence("(a letter of a CELL that there is not, too)");
    for (int rows = 1; rows <= 4; rows++) {
      for (int columns = 1; columns <= 6; columns++) {
        FogCuts x = of(rows, columns, "");
        char last = (char) ('a' + rows * columns - 1);
        due("the last, " + last, pad(x, "." + last + "+").fault(), NONE);
        due("the one behind " + last, pad(x, "." + (char) (last + 1) + "+").fault(), 1);
        due("the one ahead of a", pad(x, ".`+").fault(), 1);
      }
    }
    FogCuts y = of(4, 6, "");
    due("x of 24", pad(y, "x+").fault(), NONE);
    due("y of 24", pad(y, "y+").fault(), 0);
    due("z of 24", pad(y, "z+").fault(), 0);
    y.bank(1, 1);
    due("b of a bank that became less", pad(y, "a+b+").fault(), 2);
    due("a letter alone of no cell", pad(y, "b").fault(), 0);
  }
  private static void moreMustCome() {
    sentence("the number of signs, if more must come");
    FogCuts x = new FogCuts();
    due("a letter alone", pad(x, "a").fault(), 1);
    due("behind an hour", pad(x, ".a").fault(), 2);
    due("behind an act", pad(x, "a0l").fault(), 3);
    due("what was wiped does not come", pad(pad(x, "a0"), "a").fault(), 1);
    due("behind 59 signs", pad(x, times(".", 59) + "a").fault(), 60);
    due("no more can come", x.say('0'), FULL);
    due("an act at the end of 60", pad(x, times(".", 58) + "a+").fault(), NONE);
  }
  private static void noThicker() {
    sentence("1 the CELL is no THICKER than what it is cut down to");
    FogCuts x = of(1, 3, "590");
    String[] can = {"a4", "a0", "b8", "b0"}, not = {"a5", "a6", "a9", "b9", "c0", "c1", "c9"};
    for (String night : can) {
      due("JUDGED, " + night, pad(x, night).judge(0), NONE);
      due("why, " + night, x.judge(1), NONE);
    }
    for (String night : not) {
      due("JUDGED, " + night, pad(x, night).judge(0), 0);
      due("why, " + night, x.judge(1), 1);
    }
    due("cut twice to the same", pad(x, "a4a4").judge(0), 1);
  }
  private static void itIsNine() {
    sentence("2 it is 9 (+)");
    FogCuts x = of(1, 3, "890");
    due("8 and 1", pad(x, "a+").judge(0), NONE);
    due("8 and 2", pad(x, "a+a+").judge(0), 1);
    due("why", x.judge(1), 2);
    due("9 and 1", pad(x, "b+").judge(0), 0);
    due("why", x.judge(1), 2);
    due("0 and 1", pad(x, "c+").judge(0), NONE);
    due("0 and 9", pad(x, times("c+", 9)).judge(0), NONE);
    due("0 and 10", pad(x, times("c+", 10)).judge(0), 9);
  }
  private static void leastReason() {
    sentence("A PART can not be for the least of these reasons");
    FogCuts x = of(1, 1, "9");
    due("9 cut to 9", pad(x, "a9").judge(1), 1);
    due("9 and 1", pad(x, "a+").judge(1), 2);
    due("the first part tells why", pad(x, "a+a9").judge(1), 2);
    due("the first part tells why", pad(x, "a9a+").judge(1), 1);
    due("a lamp can be", pad(x, "a*a*").judge(1), NONE);
  }

  // ---- 2 nights, shapes

  private static void judgedFromZeroOn() {
    sentence("JUDGED: of a NIGHT the first PART (from 0 on) that can not be, and why.");
    FogCuts x = of(1, 2, "50");
    due("an empty night", pad(x, "").judge(0), NONE);
    due("an empty night, why", x.judge(1), NONE);
    due("the first", pad(x, "b0").judge(0), 0);
    due("the second, of two signs each", pad(x, "a4b0").judge(0), 1);
    due("the first of two", pad(x, ".b0.a9").judge(0), 1);
    due("the last of 60", pad(x, times(".", 58) + "b0").judge(0), 58);
    due("all can be", pad(x, times(".", 58) + "b+").judge(0), NONE);
  }
  private static void allIsSoThen() {
    sentence("DONE: all is so then.");
    FogCuts x = of(1, 3, "590");
    due("parts", pad(x, "a3c+b*.").done(), 4);
    dueFog("all parts", fog(x), "270");
    due("the lamp", x.told(5), 2);
    due("nothing to do", x.done(), 0);
    dueFog("nothing is done", fog(x), "270");
  }
  private static void emptyThen() {
    sentence("The NIGHT on the PAD is DONE (it is empty then): PARTS.");
    FogCuts x = of(1, 2, "50");
    due("of an empty night", x.done(), 0);
    due("no signs", x.told(0), 0);
    due("parts, not signs", pad(x, "a4.b+").done(), 3);
    due("it is empty", x.told(0), 0);
    due("nothing to wipe", x.wipe(), 0);
    due("nothing to do", x.done(), 0);
    due("30 parts of two signs", pad(x, times("a*", 30)).done(), 30);
    due("the next sign is the first", x.say('.'), 1);
  }
  private static void notBeingDone() {
    sentence("BEHIND, likewise, not being DONE: how THICK a CELL is.");
    FogCuts x = pad(lit(of(1, 2, "95"), "a"), "a4b*.");
    due("behind", x.behind(0, 0), 2);
    due("behind again", x.behind(0, 0), 2);
    due("its lamp behind", x.behind(1, 1), 1);
    due("it is as thick", x.state(0, 0), 9);
    due("it has no lamp", x.state(1, 1), 0);
    due("the pad is as it was", x.told(0), 5);
    x.wipe();
    due("behind an empty night", x.behind(0, 0), 9);
    due("the lamp behind an empty night", x.behind(0, 1), 1);
  }
  private static void noneAtFirst() {
    sentence("each wants some CELLS to be so THICK (none at first: then it is no SHAPE)");
    FogCuts x = new FogCuts();
    for (int shape = 0; shape < 4; shape++) {
      due("shape " + shape + " at first", x.stands(shape), UNKNOWN);
      due("wants one, shape " + shape, x.shape(shape, 11, 0), 1);
      due("is one, shape " + shape, x.stands(shape), 1);
      due("wants none again, shape " + shape, x.shape(shape, 11, -1), 0);
      due("is none again, shape " + shape, x.stands(shape), UNKNOWN);
    }
  }
  private static void slackMoreOrLess() {
    sentence("It STANDS, if each of these is so, or SLACK more or less at most.");
    FogCuts x = of(1, 1, "5");
    for (int slack = 0; slack <= 3; slack++) {
      x.set(1, slack);
      for (int number = 0; number <= 9; number++) {
        x.shape(0, 0, number);
        due("5 for " + number + ", slack " + slack, x.stands(0), number >= 5 - slack && number <= 5 + slack ? 1 : 0);
      }
    }
  }
  private static void eachOfThese() {
    sentence("It STANDS, if each of these is so, or SLACK more or less at most.");
    FogCuts x = of(4, 6, times("3", 24));
    for (int cell = 0; cell < 24; cell++) x.shape(1, cell, 4);
    due("all are so", x.stands(1), 1);
    for (int cell = 0; cell < 24; cell++) {
      x.cell(cell, 0, 2);
      due("but cell " + cell, x.stands(1), 0);
      x.cell(cell, 0, 5);
      due("cell " + cell + " one more", x.stands(1), 1);
    }
  }
  private static void lostFromZeroOn() {
    sentence("LOST: the first PART of the NIGHT behind which a SHAPE does not stand (0 on; it may do so later).");
    FogCuts x = wants(of(1, 2, "50"), 0, 0, "a5");
    due("an empty night", pad(x, "").lost(0), NONE);
    due("behind the first", pad(x, "a4").lost(0), 0);
    due("behind the second, of two signs each", pad(x, "b+a4").lost(0), 1);
    due("never", pad(x, "b+..").lost(0), NONE);
    due("it stands again later", pad(x, ".a4a+.").lost(0), 1);
    due("behind the last of 59", pad(x, times(".", 58) + "a4").lost(0), 58);
    wants(x, 0, 0, "a4");
    due("not standing ahead of an empty night", pad(x, "").lost(0), NONE);
    due("not standing ahead, but behind each", pad(x, "a4.").lost(0), NONE);
    due("lost again", pad(x, "a4.a3a2").lost(0), 2);
  }
  private static void allZero() {
    sentence("rows of CELLS, a ROW from COLUMN 0 to the last, that are all 0");
    for (int cell = 0; cell < 24; cell++) {
      FogCuts x = of(4, 6, "");
      x.cell(cell, 0, 1);
      due("all but cell " + cell, x.through(), 15 - (1 << cell / 6));
    }
    due("a lamp is no fog", lit(of(2, 2, ""), "abcd").through(), 3);
  }
  private static void bitsOfRows() {
    sentence("how many ROWS one can look through, as bits of ROWS");
    for (int rows = 1; rows <= 4; rows++) due("all of " + rows, of(rows, 1, "").through(), (1 << rows) - 1);
    due("none", of(4, 1, "1111").through(), 0);
    due("the first", of(4, 1, "0111").through(), 1);
    due("the last", of(4, 1, "1110").through(), 8);
  }

  // ---- 3 carving

  private static void fewestActs() {
    sentence("CARVED: the fewest acts by which a SHAPE stands now: a cut (to any number) is one, each + is one.");
    for (int slack = 0; slack <= 3; slack++) {
      for (int number = 0; number <= 9; number++) {
        FogCuts x = wants(of(1, 1, "4"), slack, 0, "a" + number);
        int acts = 4 > number + slack ? 1 : Math.max(0, number - slack - 4);
        due("4 for " + number + ", slack " + slack, x.carved(0), acts);
      }
    }
    due("9 cut to 0", wants(of(1, 1, "9"), 0, 0, "a0").carved(0), 1);
    due("0 raised to 9", wants(of(1, 1, "0"), 0, 0, "a9").carved(0), 9);
    FogCuts all = of(4, 6, "");
    for (int cell = 0; cell < 24; cell++) all.shape(0, cell, 9);
    due("24 cells from 0 to 9, slack 1", all.carved(0), 24 * 8);
  }
  private static void dueNowThen(String what, FogCuts x, int many, int cells) {
    due(what + ", how many", x.nowThen(0, 0), many);
    due(what + ", CELLS", x.nowThen(0, 1), cells);
  }
  private static void cellsOfTheShape() {
    sentence("NOW, THEN: the fewest cuts now, of CELLS of the SHAPE (3 at most), by which it stands behind the NIGHT on the PAD");
    FogCuts x = pad(wants(of(1, 2, "05"), 0, 0, "a0"), "<");
    dueNowThen("only another cell's cut would do", x, NONE, NONE);
    dueNowThen("that cell is of the shape", wants(x, 0, 0, "b0"), 1, 2);
    dueNowThen("only cell 0's cut would do", pad(wants(of(1, 2, "50"), 0, 0, "b0"), ">"), NONE, NONE);
    FogCuts y = wants(of(2, 2, "9999"), 0, 0, "b1c2d3");
    dueNowThen("3 cells, an empty night", y, 3, 14);
    y.shape(0, 0, 9);
    dueNowThen("4 cells", y, FULL, FULL);
    y.shape(0, 1, -1);
    dueNowThen("3 again", y, 2, 12);
    FogCuts all = of(4, 6, times("9", 24));
    dueNowThen("the last three", wants(all, 0, 0, "v8w8x8"), 3, 7 << 21);
  }
  private static void noCutsAtAll() {
    sentence("how many; the CELLS, the least as bits; NONE. (The NIGHT has hours alone; nothing but cuts is done; a cut to some number below what it is.)");
    FogCuts x = wants(of(1, 2, "50"), 0, 0, "a5");
    dueNowThen("it stands without", x, 0, 0);
    dueNowThen("it stands without, and by a cut, too", wants(of(1, 1, "5"), 1, 0, "a5"), 0, 0);
    dueNowThen("it can not be more", wants(x, 0, 0, "a6"), NONE, NONE);
    dueNowThen("one less", wants(x, 0, 0, "a4"), 1, 1);
    dueNowThen("down to 0", wants(x, 0, 0, "a0"), 1, 1);
    dueNowThen("0 is not to be cut, and is not 1", wants(x, 0, 0, "b1"), NONE, NONE);
    dueNowThen("0 is not cut where it stands", wants(x, 0, 0, "b0"), 1, 1);
    dueNowThen("slack reaches", wants(x, 3, 0, "a8b3"), 0, 0);
    dueNowThen("slack does not reach", wants(x, 3, 0, "a9"), NONE, NONE);
  }
  private static void leastCells() {
    sentence("how many; the CELLS, the least as bits; NONE.");
    FogCuts x = pad(wants(of(1, 2, "22"), 0, 0, "a1b1"), ">");
    dueNowThen("either of two", x, 1, 1);
    dueNowThen("both", pad(x, ""), 2, 3);
    dueNowThen("none does", pad(x, ">>>>>"), NONE, NONE);
    dueNowThen("c alone ahead of a and b, 4 ahead of 3", pad(wants(of(1, 3, "122"), 1, 0, "a2b2c0"), "<"), 1, 4);
    dueNowThen("behind a full pad", pad(x, times(".", 60)), 2, 3);
  }
  private static void hoursAlone() {
    sentence("(The NIGHT has hours alone; nothing but cuts is done; a cut to some number below what it is.)");
    FogCuts x = wants(of(1, 2, "22"), 0, 0, "a1");
    dueNowThen("an empty night", x, 1, 1);
    dueNowThen("five kinds of hours", pad(x, ".^>_<"), NONE, NONE);
    dueNowThen("the river's hour", pad(x, "~"), NONE, NONE);
    for (String night : new String[] {"a0", "a+", "a*", "..a*..", "a", ".a", "?", "m0"}) {
      dueNowThen("behind " + night, pad(x, night), NO, NO);
    }
    dueFog("nothing is done", fog(x), "22");
  }
  private static void dueDark(String what, FogCuts x, int many, int which) {
    due(what + ", how many", x.dark(0, 0), many);
    due(what + ", which", x.dark(0, 1), which);
  }
  private static void eightLamps() {
    sentence("DARK: the fewest LAMPS to be put out now (of 8 at most) by which a SHAPE stands behind that NIGHT");
    FogCuts x = pad(wants(of(3, 3, times("9", 9)), 0, 0, "e9"), ".");
    dueDark("no lamps", x, 0, 0);
    dueDark("8 lamps, all but the one in the middle", lit(x, "abcdfghi"), 4, 2 + 8 + 32 + 128);
    lit(x, "e");
    dueDark("9 lamps", x, FULL, FULL);
    x.cell(0, 1, 0);
    dueDark("8 lamps", x, 5, 2 + 8 + 16 + 32 + 128);
    FogCuts y = of(4, 6, "");
    for (int cell = 0; cell < 24; cell++) y.cell(cell, 1, 1);
    dueDark("24 lamps", wants(y, 0, 0, "a0"), FULL, FULL);
    FogCuts z = lit(of(2, 4, times("9", 8)), "abcdefgh");
    for (int cell = 0; cell < 8; cell++) z.shape(0, cell, 9);
    z.set(1, 0);
    dueDark("all 8 are put out", pad(z, "."), 8, 255);
  }
  private static void leastLamps() {
    sentence("how many; which, the least as bits; NONE.");
    FogCuts x = lit(wants(of(1, 3, "555"), 0, 0, "b5"), "ac");
    dueDark("an empty night", x, 0, 0);
    dueDark("none to be put out", pad(wants(x, 0, 0, "b4"), "."), 0, 0);
    dueDark("both", wants(x, 0, 0, "b5"), 2, 5);
    dueDark("nothing helps", wants(x, 0, 0, "b6"), NONE, NONE);
    dueDark("too dark", wants(x, 0, 0, "b3"), NONE, NONE);
    FogCuts y = pad(lit(wants(of(1, 2, "55"), 0, 0, "a3b3"), "ab"), ">");
    dueDark("either of two", y, 1, 1);
    due("nothing is put out", y.told(5), 3);
    wants(y, 0, 1, "b9").nowThen(1, 0);
    dueDark("either of two, where nowThen() asked for the second before", y, 1, 1);
    dueDark("c alone ahead of a and b, 4 ahead of 3", pad(lit(wants(of(1, 3, "122"), 0, 0, "b1"), "abc"), "<"), 1, 4);
    FogCuts z = lit(wants(of(4, 6, times("9", 24)), 0, 0, "x9"), "ax");
    dueDark("the last", pad(z, "."), 1, 1 << 23);
  }
  private static void dueMoved(String what, FogCuts x, int many, int by) {
    due(what + ", how many", x.moved(0, 0), many);
    due(what + ", by how much", x.moved(0, 1), by);
  }
  private static void staysInTheBank() {
    sentence("by so many ROWS down and COLUMNS on (any that keep all its CELLS in the BANK; also none, also up and back)");
    dueMoved("none", wants(of(1, 1, "5"), 0, 0, "a5"), 0, 305);
    dueMoved("one on", wants(of(1, 2, "05"), 0, 0, "a5"), 0, 306);
    dueMoved("one back", wants(of(1, 2, "50"), 0, 0, "b5"), 0, 304);
    dueMoved("one down", wants(of(2, 1, "05"), 0, 0, "a5"), 0, 405);
    dueMoved("one up", wants(of(2, 1, "50"), 0, 0, "b5"), 0, 205);
    dueMoved("not over the end of a row", wants(of(2, 2, "0090"), 0, 0, "b9"), 0, 404);
    dueMoved("nor over its begin", wants(of(2, 2, "0900"), 0, 0, "c9"), 0, 206);
    dueMoved("not with one cell outside", wants(of(1, 3, "009"), 0, 0, "b9c0"), 9, 304);
    dueMoved("nor outside on the other side", wants(of(1, 3, "900"), 0, 0, "a0b9"), 9, 306);
    dueMoved("nor below", wants(of(3, 1, "009"), 0, 0, "b9c0"), 9, 205);
    dueMoved("nor above", wants(of(3, 1, "900"), 0, 0, "a0b9"), 9, 405);
    dueMoved("as wide as the bank", wants(of(2, 2, "0990"), 0, 0, "a9d9"), 18, 305);
  }
  private static void byHowMuch() {
    sentence("by how much (100 times (ROWS and 3), and COLUMNS and 5: the least number of these)");
    FogCuts x = of(4, 6, "");
    x.cell(23, 0, 9);
    dueMoved("farthest down and on", wants(x, 0, 0, "a9"), 0, 610);
    FogCuts y = of(4, 6, "9");
    dueMoved("farthest up and back", wants(y, 0, 0, "x9"), 0, 0);
    dueMoved("all the same, from the first", wants(of(2, 2, ""), 0, 0, "a0"), 0, 305);
    dueMoved("all the same, from the last", wants(of(2, 2, ""), 0, 0, "d0"), 0, 204);
    dueMoved("up ahead of back", wants(of(2, 2, "0550"), 0, 0, "d5"), 0, 205);
    dueMoved("back ahead of down", wants(of(2, 2, "5005"), 0, 0, "b5"), 0, 304);
    dueMoved("fewest ahead of least", wants(of(1, 3, "345"), 0, 0, "b5"), 0, 306);
    dueMoved("slack counts", wants(of(1, 3, "345"), 1, 0, "b5"), 0, 305);
  }
  private static void moreThanTwiceSlack() {
    sentence("twos of SHAPES that can never stand together (some CELL both want, by numbers more than twice SLACK apart)");
    for (int slack = 0; slack <= 3; slack++) {
      FogCuts x = wants(wants(new FogCuts(), slack, 0, "l1"), slack, 1, "l" + (1 + 2 * slack));
      due("twice slack " + slack, x.apart(-1), 0);
      x.shape(1, 11, 2 + 2 * slack);
      due("one more than twice slack " + slack, x.apart(-1), 1);
      x.shape(1, 11, 1);
      x.shape(0, 11, 2 + 2 * slack);
      due("the other way round, slack " + slack, x.apart(-1), 1);
      x.shape(0, 11, 1 + 2 * slack);
      due("the other way round, twice slack " + slack, x.apart(-1), 0);
    }
    FogCuts y = wants(wants(new FogCuts(), 0, 0, "a0"), 0, 1, "b9");
    due("no cell both want", y.apart(-1), 0);
    due("no cell of a shape that is none", wants(new FogCuts(), 0, 2, "a9").apart(-1), 0);
  }
  private static void theIth() {
    sentence("how many; the i-th (10 times the lesser and the greater)");
    FogCuts x = new FogCuts();
    due("none", x.apart(-1), 0);
    due("no first", x.apart(0), NONE);
    for (int shape = 0; shape < 4; shape++) wants(x, 0, shape, "f" + shape);
    int[] twos = {1, 2, 3, 12, 13, 23};
    due("all", x.apart(-1), 6);
    for (int i = 0; i < 6; i++) due("two " + i, x.apart(i), twos[i]);
    due("no seventh", x.apart(6), NONE);
    due("the last possible", x.apart(MOST), NONE);
  }
  private static void apartBelow() {
    sentence("APART: how many (i = -1), the i-th; NONE (i below -1, too).");
    FogCuts x = wants(wants(new FogCuts(), 0, 0, "a0"), 0, 3, "a9");
    due("-1", x.apart(-1), 1);
    due("0", x.apart(0), 3);
    due("1", x.apart(1), NONE);
    due("-2", x.apart(-2), NONE);
    due("the first possible", x.apart(LEAST), NONE);
  }
  private static void dueWalk(FogCuts x, int from, int to, int spoilt, int steps, int first) {
    due("SPOILT from " + from + " to " + to, x.walk(from, to, 0), spoilt);
    due("steps from " + from + " to " + to, x.walk(from, to, 1), steps);
    due("the first from " + from + " to " + to, x.walk(from, to, 2), first);
  }
  private static void spoilt() {
    sentence("each CELL that some SHAPE wants, and one comes to or begins in, is SPOILT");
    FogCuts x = wants(wants(of(1, 5, ""), 0, 0, "a0"), 0, 3, "e9");
    dueWalk(x, 1, 3, 0, 2, 2);
    dueWalk(x, 0, 3, 1, 3, 1);
    dueWalk(x, 1, 4, 1, 3, 2);
    dueWalk(x, 0, 4, 2, 4, 1);
    dueWalk(wants(x, 0, 1, "a9"), 0, 1, 1, 1, 1);
    for (int cell = 0; cell < 5; cell++) x.shape(2, cell, cell);
    dueWalk(x, 0, 4, 5, 4, 1);
    FogCuts y = of(4, 6, "");
    for (int cell = 0; cell < 24; cell++) y.shape(cell % 4, cell, 9);
    dueWalk(y, 0, 23, 9, 8, 1);
  }
  private static void oneIsThere() {
    sentence("the first CELL on such a way behind the first (of several the least; NONE, if one is there)");
    FogCuts x = wants(of(2, 2, ""), 0, 0, "d0");
    dueWalk(x, 0, 0, 0, 0, NONE);
    dueWalk(x, 3, 3, 1, 0, NONE);
    dueWalk(x, 0, 3, 1, 2, 1);
    dueWalk(x, 3, 0, 1, 2, 1);
    dueWalk(x, 1, 2, 0, 2, 0);
    dueWalk(x, 0, 1, 0, 1, 1);
    FogCuts one = of(1, 1, "9");
    dueWalk(one, 0, 0, 0, 0, NONE);
    dueWalk(of(3, 3, ""), 8, 0, 0, 4, 5);
    dueWalk(of(3, 3, ""), 4, 6, 0, 2, 3);
  }
  private static void fewestStepsOfThese() {
    sentence("the fewest; of these ways the fewest steps");
    dueWalk(wants(of(3, 3, ""), 0, 0, "b0e0"), 0, 2, 0, 6, 3);
    dueWalk(wants(of(3, 3, ""), 0, 0, "b0e0h0"), 0, 2, 1, 2, 1);
    dueWalk(wants(of(3, 3, ""), 0, 0, "b0e0h0"), 6, 2, 1, 4, 3);
    dueWalk(wants(of(4, 6, ""), 0, 0, "b0h0n0"), 0, 2, 0, 8, 6);
  }
  private static void besideEachOther() {
    sentence("WALK from a CELL to a CELL, by CELLS beside each other");
    dueWalk(of(2, 3, ""), 2, 3, 0, 3, 1);
    dueWalk(of(2, 3, ""), 3, 2, 0, 3, 0);
    dueWalk(of(4, 1, ""), 0, 3, 0, 3, 1);
    dueWalk(of(1, 6, ""), 5, 0, 0, 5, 4);
    dueWalk(of(4, 6, ""), 23, 0, 0, 8, 17);
    dueWalk(of(4, 6, ""), 0, 5, 0, 5, 1);
  }

  // ---- 4 crews, sights, chance

  private static void dueCrews(String what, FogCuts x, int set, int wins, int cut) {
    due(what + ", WINS", x.wins(set), wins);
    due(what + ", CUT", x.cut(set), cut);
  }
  private static void nothingToCut() {
    sentence("who can cut nothing has lost");
    FogCuts x = of(1, 4, "0035");
    dueCrews("no cells", x, 0, 1, NONE);
    dueCrews("cells of 0", x, 3, 1, NONE);
    dueCrews("a cell of 3", x, 4, 0, 20);
    dueCrews("a cell of 3 and one of 0", x, 5, 0, 20);
    dueCrews("no fog at all", of(4, 6, ""), (1 << 24) - 1, 1, NONE);
  }
  private static void firstCut() {
    sentence("CUT: the first cut by which who begins wins: 10 times the CELL and the number (the least); NONE.");
    dueCrews("to the same", of(1, 2, "53"), 3, 0, 3);
    dueCrews("the same already", of(1, 2, "55"), 3, 1, NONE);
    dueCrews("one away", of(1, 2, "98"), 3, 0, 8);
    dueCrews("the second only", of(1, 2, "35"), 3, 0, 13);
    dueCrews("the least of three", of(1, 3, "357"), 7, 0, 2);
    dueCrews("that leave nothing to win", of(1, 3, "246"), 7, 1, NONE);
    FogCuts x = of(4, 6, times("9", 24));
    dueCrews("all, of 9", x, (1 << 24) - 1, 1, NONE);
    x.cell(23, 0, 8);
    dueCrews("all, of 9 but the last", x, (1 << 24) - 1, 0, 8);
    dueCrews("the last", x, 1 << 23, 0, 230);
  }
  private static void setOfCells() {
    sentence("WINS. OUTSIDE: the set is not of CELLS.");
    for (int rows = 1; rows <= 4; rows++) {
      for (int columns = 1; columns <= 6; columns++) {
        FogCuts x = of(rows, columns, "");
        int cells = rows * columns;
        dueCrews("all of " + cells, x, (1 << cells) - 1, 1, NONE);
        dueCrews("a cell more than " + cells, x, 1 << cells, OUTSIDE, OUTSIDE);
        dueCrews("a cell and a cell more than " + cells, x, 1 | 1 << cells, OUTSIDE, OUTSIDE);
      }
    }
    for (int set : new int[] {-1, LEAST, MOST, LEAST + 1}) dueCrews("" + set, of(4, 6, ""), set, OUTSIDE, OUTSIDE);
  }
  private static void eightSights() {
    sentence("SIGHTS, 8 at most: a CELL is so THICK.");
    FogCuts x = new FogCuts();
    for (int i = 1; i <= 8; i++) due("sight " + i, x.seen(11, i % 2 * 9), i);
    due("sight 9", x.seen(11, 9), FULL);
    due("sights", x.told(6), 8);
    due("they go", x.forget(), 8);
    due("there are none", x.forget(), 0);
    due("room again", x.seen(0, 0), 1);
  }
  private static void dueWhat(String what, FogCuts x, int cells, int... all) {
    due(what + ", how many", x.what(-1), all.length);
    for (int i = 0; i < all.length; i++) due(what + ", the " + i, x.what(i), all[i]);
    due(what + ", one more", x.what(all.length), NONE);
    due(what + ", CELLS", x.where(), cells);
  }
  private static void cutsThatFit() {
    sentence("cuts (a CELL, down to a number below what it is now) by which, behind the NIGHT on the PAD (hours alone), all SIGHTS hold");
    FogCuts x = of(1, 3, "302");
    dueWhat("no sights", x, 5, 0, 1, 2, 20, 21);
    x.seen(0, 3);
    dueWhat("a cell is as it is now", x, 4, 20, 21);
    x.seen(2, 2);
    dueWhat("all are as they are now, and something was cut", x, 0);
    x.forget();
    x.seen(0, 1);
    x.seen(0, 1);
    dueWhat("the same sight twice", x, 1, 1);
    x.seen(0, 2);
    dueWhat("sights against each other", x, 0);
    dueWhat("no fog", of(4, 6, ""), 0);
  }
  private static void cutsBehindHours() {
    sentence("cuts (a CELL, down to a number below what it is now) by which, behind the NIGHT on the PAD (hours alone), all SIGHTS hold");
    FogCuts x = of(1, 2, "32");
    x.seen(1, 1);
    dueWhat("an empty night", x, 2, 11);
    dueWhat("behind one hour", pad(x, ">"), 3, 0, 1, 2, 10, 11);
    for (String night : new String[] {"a0", "a*", "b+", "..a0", "a", "?"}) {
      pad(x, night);
      for (int i : new int[] {-1, 0, -2, MOST, LEAST}) due("behind " + night + ", " + i, x.what(i), NO);
      due("behind " + night + ", CELLS", x.where(), NO);
    }
    dueFog("nothing is cut", fog(x), "32");
  }
  private static void whatBelow() {
    sentence("WHAT: how many (i = -1), the i-th; NONE (i below -1, too).");
    FogCuts x = of(4, 6, times("9", 24));
    due("all cuts there are", x.what(-1), 216);
    due("the first", x.what(0), 0);
    due("the ninth", x.what(8), 8);
    due("the tenth", x.what(9), 10);
    due("the last", x.what(215), 238);
    due("one more", x.what(216), NONE);
    due("-2", x.what(-2), NONE);
    due("the first possible", x.what(LEAST), NONE);
    due("the last possible", x.what(MOST), NONE);
    due("all cells", x.where(), (1 << 24) - 1);
  }
  private static void eachOfMHours() {
    sentence("CHANCE: each of m hours (0 to 8) is windy to the e with t tenths (0 to 10), each by itself, else still: that a SHAPE stands behind them.");
    FogCuts x = wants(of(1, 1, "8"), 0, 0, "a8");
    for (int m = -1; m <= 9; m++) {
      boolean fits = m >= 0 && m <= 8;
      long lower = 1;
      for (int i = 0; i < m; i++) lower *= 10;
      long outside = FogCuts.LOST + OUTSIDE;
      due("all still, of " + m, x.chance(0, 0, m, 0), fits ? 1 : outside);
      due("none windy for sure, of " + m, x.chance(0, 10, m, 0), fits ? m == 0 ? 1 : 0 : outside);
      due("lower of " + m, x.chance(0, 1, m, 1), fits ? lower : outside);
    }
    for (int t = -1; t <= 11; t++) {
      boolean fits = t >= 0 && t <= 10;
      due("of no hours, " + t + " tenths", x.chance(0, t, 0, 0), fits ? 1 : FogCuts.LOST + OUTSIDE);
      due("of no hours, " + t + " tenths, lower", x.chance(0, t, 0, 1), fits ? 1 : FogCuts.LOST + OUTSIDE);
    }
    due("8 windy hours take 8", wants(x, 0, 0, "a0").chance(0, 10, 8, 0), 1);
    due("8 windy hours take no less", wants(x, 0, 0, "a1").chance(0, 10, 8, 0), 0);
    due("not behind 7", wants(x, 0, 0, "a0").chance(0, 10, 7, 0), 0);
    due("1 of 8", wants(x, 0, 0, "a1").chance(0, 5, 8, 0), 1);
    due("1 of 8, lower", x.chance(0, 5, 8, 1), 32);
  }
  private static void windyToTheEast() {
    sentence("is windy to the e with t tenths (0 to 10), each by itself, else still");
    FogCuts x = wants(of(1, 2, "20"), 0, 0, "b1");
    due("from the west", x.chance(0, 10, 1, 0), 1);
    due("not to the west", wants(of(1, 2, "02"), 0, 0, "a1").chance(0, 10, 1, 0), 0);
    due("still, for sure", x.chance(0, 0, 8, 0), 0);
    FogCuts y = lit(wants(of(1, 1, "9"), 0, 0, "a9"), "a");
    for (int m = 0; m <= 4; m++) {
      y.shape(0, 0, 9 - 2 * m);
      due("lamps take in each of " + m + " still hours", y.chance(0, 0, m, 0), 1);
    }
  }
  private static void chanceOfNoHours() {
    sentence("that a SHAPE stands behind them");
    FogCuts x = wants(of(1, 1, "5"), 0, 0, "a4");
    due("it does not stand, no hours", x.chance(0, 5, 0, 0), 0);
    due("it does not stand, no hours, lower", x.chance(0, 5, 0, 1), 1);
    due("it stands behind one", x.chance(0, 10, 1, 0), 1);
    due("by slack, none", wants(x, 3, 0, "a8").chance(0, 10, 0, 0), 1);
    due("by slack, not behind one", x.chance(0, 10, 1, 0), 0);
    pad(x, "a");
    due("the pad does not matter", x.chance(0, 10, 0, 0), 1);
  }
  private static void yearBounds() {
    sentence("A YEAR by a seed (0 to 9999) of m hours (1 to 99), from all as it is");
    FogCuts x = of(1, 1, "9");
    int[] seeds = {0, 9999, -1, 10000, LEAST, MOST}, hours = {1, 99, 0, 100, LEAST, MOST};
    for (int i = 0; i < 6; i++) {
      due("seed " + seeds[i], x.year(seeds[i], 1, 2) == OUTSIDE ? OUTSIDE : 0, i < 2 ? 0 : OUTSIDE);
      due("hours " + hours[i], x.year(0, hours[i], 2) == OUTSIDE ? OUTSIDE : 0, i < 2 ? 0 : OUTSIDE);
      due("both, " + i, x.year(seeds[i], hours[i], 2) == OUTSIDE ? OUTSIDE : 0, i < 2 ? 0 : OUTSIDE);
    }
    FogCuts y = lit(of(2, 1, "50"), "b");
    y.set(0, 5);
    due("seed 6 is the river's, with lamps and feed", y.year(6, 1, 0), 4 + 5 + 5);
  }
  private static void hoursOfAYear() {
    sentence("by x left over by 8: 0 to 3 windy to n, e, s, w, 4 the river's, else still");
    FogCuts x = of(4, 4, "5000500550055550");
    due("together", x.told(7), 40);
    int[] seeds = {2, 5, 0, 3, 6, 1, 4, 7}, left = {39, 38, 37, 36, 48, 40, 40, 40};
    for (int i = 0; i < 8; i++) due("x becomes " + (75 * seeds[i] + 74), x.year(seeds[i], 1, 0), left[i]);
  }
  private static void leftOver() {
    sentence("x becomes (75 x and 74) left over by 65537");
    FogCuts x = of(4, 4, "5000500550055550");
    due("the last seed that leaves itself, 872", x.year(872, 1, 0), 37);
    due("the first that is left over, 873", x.year(873, 1, 0), 48);
    due("the last seed", x.year(9999, 1, 0), 48);
    due("the second hour goes on from the first", x.year(6, 2, 0), 48);
    due("what is left over goes on, 12 to 974, still", x.year(873, 2, 0), 48);
    due("and 974 to 7587, windy to the west", x.year(873, 3, 0), 48 - 4);
  }
  private static void hoursNotStood() {
    sentence("in how many hours some SHAPE did not stand behind it");
    FogCuts x = lit(of(2, 2, ""), "abcd");
    due("no shapes", x.year(0, 99, 1), 0);
    due("it stands all the year", wants(x, 0, 0, "b0").year(0, 99, 1), 0);
    for (int shape = 0; shape < 4; shape++) {
      due("one never does, " + shape, wants(lit(of(2, 2, ""), "abcd"), 0, shape, "d9").year(0, 99, 1), 99);
    }
    due("another one never does", wants(x, 0, 3, "d9").year(0, 99, 1), 99);
    due("two never do, each hour once", wants(x, 0, 2, "d8").year(0, 99, 1), 99);
    due("one hour", x.year(0, 1, 1), 1);
    due("ahead of the first hour it did not stand", wants(of(1, 1, "1"), 0, 0, "a0").year(0, 1, 1), 0);
  }
  private static void mostBehind() {
    sentence("the most that one CELL was behind an hour");
    due("not ahead of the first hour", of(1, 1, "9").year(0, 1, 2), 8);
    due("a still hour", of(1, 2, "39").year(1, 1, 2), 9);
    due("no fog", of(1, 2, "00").year(0, 1, 2), 0);
    due("the river's, 9 at most", of(1, 2, "90").year(6, 1, 2), 9);
    due("one cell, not all", of(1, 2, "33").year(1, 1, 2), 3);
    due("behind any hour, not the last alone", of(1, 1, "0").year(6, 99, 2) >= 2 ? 1 : 0, 1);
  }
  private static void notInFact() {
    sentence("Nothing is DONE in fact.");
    FogCuts x = pad(wants(lit(of(2, 2, "9999"), "a"), 2, 0, "a5"), "a");
    for (int what = 0; what < 3; what++) x.year(9999, 99, what);
    dueFog("as thick", fog(x), "9999");
    due("as lit", x.told(5), 1);
    due("as many signs", x.told(0), 1);
    due("from all as it is, again", x.year(6, 1, 0), 9 + 8 + 9 + 9);
  }

  // ---- promises

  private static void newObject() {
    sentence("Three by four, no fog.");
    FogCuts x = new FogCuts();
    int[] want = {0, 3, 4, 2, 1, 0, 0, 0};
    for (int what = 0; what < 8; what++) due("told " + what, x.told(what), want[what]);
    dueFog("no fog", fog(x), times("0", 12));
    due("nothing on the pad", x.wipe(), 0);
    due("no sights", x.forget(), 0);
    for (int shape = 1; shape <= 4; shape++) {
      for (int cell = 0; cell < 12; cell++) due("wanted", x.told(100 * shape + cell), -1);
    }
    due("image 0", x.restore(0), STATE);
    due("image 1", x.restore(1), STATE);
  }
  private static void allAsAtFirst() {
    sentence("All is as at first (but the PAD, IMAGES).");
    FogCuts x = lit(of(3, 4, times("9", 12)), "al");
    x.set(0, 5);
    x.set(1, 3);
    for (int shape = 0; shape < 4; shape++) x.shape(shape, 11, shape);
    for (int i = 0; i < 8; i++) x.seen(i, i);
    x.image(1);
    pad(x, "l+");
    due("the same size again", x.bank(3, 4), 12);
    int[] want = {2, 3, 4, 2, 1, 0, 0, 0};
    for (int what = 0; what < 8; what++) due("told " + what, x.told(what), want[what]);
    for (int shape = 0; shape < 4; shape++) due("shape " + shape, x.stands(shape), UNKNOWN);
    dueFog("no lamp melts", behind(x, "~..."), "200020002000");
    due("no sights", x.seen(0, 0), 1);
    due("image 0 was not kept", x.restore(0), STATE);
    due("image 1 was", x.restore(1), 1);
    due("together", x.told(7), 108);
  }
  private static void bankKeepsThePad() {
    sentence("All is as at first (but the PAD, IMAGES).");
    FogCuts x = pad(of(4, 6, ""), times(".", 58) + "x+");
    due("sound", x.fault(), NONE);
    x.bank(1, 1);
    due("signs", x.told(0), 60);
    due("x is no cell", x.fault(), 58);
    x.bank(4, 6);
    due("sound again", x.done(), 59);
    due("done", x.state(23, 0), 1);
  }
  private static void whichItWas() {
    sentence("How THICK a CELL is (what = 0), its LAMP (1: 1, 0): which it was.");
    FogCuts x = new FogCuts();
    due("at first", x.cell(0, 0, 9), 0);
    due("9", x.cell(0, 0, 9), 9);
    due("9 again", x.cell(0, 0, 0), 9);
    due("0", x.cell(0, 0, 0), 0);
    due("no lamp at first", x.cell(0, 1, 1), 0);
    due("a lamp", x.cell(0, 1, 1), 1);
    due("a lamp again", x.cell(0, 1, 0), 1);
    due("no lamp", x.cell(0, 1, 0), 0);
    due("a lamp of 2", x.cell(0, 1, 2), OUTSIDE);
    due("a lamp of 9", x.cell(0, 1, 9), OUTSIDE);
  }
  private static void feedOrSlackWas() {
    sentence("FEED (what = 0), SLACK (1): which it was. OUTSIDE.");
    FogCuts x = new FogCuts();
    int was = 2;
    for (int v = -1; v <= 7; v++) {
      boolean fits = v >= 1 && v <= 5;
      due("feed " + v, x.set(0, v), fits ? was : OUTSIDE);
      was = fits ? v : was;
    }
    was = 1;
    for (int v = -2; v <= 6; v++) {
      boolean fits = v >= 0 && v <= 3;
      due("slack " + v, x.set(1, v), fits ? was : OUTSIDE);
      was = fits ? v : was;
    }
    due("neither", x.set(2, 1), OUTSIDE);
    due("neither", x.set(-1, 1), OUTSIDE);
  }
  private static void notWantedAnyMore() {
    sentence("A SHAPE wants a CELL so THICK (-1: it does not want it any more): how many it wants.");
    FogCuts x = of(4, 6, "");
    due("it did not want it", x.shape(0, 0, -1), 0);
    for (int cell = 0; cell < 24; cell++) due("wants " + cell, x.shape(0, cell, cell % 10), cell + 1);
    due("wants 0 thick, too", x.told(100), 0);
    due("again, so thick", x.shape(0, 23, 9), 24);
    for (int cell = 0; cell < 24; cell++) due("wants no more " + cell, x.shape(0, cell, -1), 23 - cell);
    due("-2", x.shape(0, 0, -2), OUTSIDE);
    due("10", x.shape(0, 0, 10), OUTSIDE);
    due("no shape", x.stands(0), UNKNOWN);
  }
  private static void signsGo() {
    sentence("Signs go: how many there were.");
    FogCuts x = new FogCuts();
    due("none", x.wipe(), 0);
    due("60", pad(x, times("z", 60)).wipe(), 60);
    due("none then", x.wipe(), 0);
    due("no fault then", x.fault(), NONE);
  }
  private static void sightsGo() {
    sentence("SIGHTS go: how many there were.");
    FogCuts x = of(1, 1, "5");
    due("none", x.forget(), 0);
    for (int i = 0; i < 8; i++) x.seen(0, 9);
    due("nothing fits", x.what(-1), 0);
    due("8", x.forget(), 8);
    due("none then", x.forget(), 0);
    due("all fit then", x.what(-1), 5);
  }
  private static void faultOrNone() {
    sentence("THE FAULT; NONE.");
    FogCuts x = new FogCuts();
    due("an empty pad", x.fault(), NONE);
    due("60 hours", pad(x, times("~", 60)).fault(), NONE);
    due("30 acts", pad(x, times("l9", 30)).fault(), NONE);
    due("a part that can not be is no fault", pad(x, "a9").fault(), NONE);
  }
  private static void noThereIsAFault() {
    sentence("NO: there is a FAULT.");
    FogCuts x = of(1, 1, "9");
    for (String night : new String[] {"a", "?", ".a", "b0", "a9?", "a+a"}) {
      due("JUDGED, " + night, pad(x, night).judge(0), NO);
      due("why, " + night, x.judge(1), NO);
    }
    due("no fault", pad(x, "a9").judge(0), 0);
  }
  private static void noAsOfDone() {
    sentence("NO: there is a FAULT, or a PART that can not be.");
    FogCuts x = wants(of(1, 2, "90"), 0, 0, "a9");
    for (String night : new String[] {"a", "?", ".a", "c0", "a9", "a+", "a8b0", "a0.b9", times(".", 59) + "a"}) {
      due("DONE, " + night, pad(x, night).done(), NO);
      due("BEHIND, " + night, x.behind(0, 0), NO);
      due("its lamp BEHIND, " + night, x.behind(0, 1), NO);
      due("LOST, " + night, x.lost(0), NO);
      due("signs, " + night, x.told(0), night.length());
    }
    dueFog("not even in part", fog(x), "90");
    due("what can be", pad(x, "a8b+").done(), 2);
  }
  private static void unknownIfItIsNone() {
    sentence("Whether a SHAPE STANDS now (1, 0). UNKNOWN: also if it is none.");
    FogCuts x = wants(new FogCuts(), 1, 1, "a0");
    int[] shapes = {-1, 0, 2, 3, 4, LEAST, MOST};
    for (int shape : shapes) {
      due("stands " + shape, x.stands(shape), UNKNOWN);
      due("lost " + shape, x.lost(shape), UNKNOWN);
      due("carved " + shape, x.carved(shape), UNKNOWN);
      due("nowThen " + shape, x.nowThen(shape, 0), UNKNOWN);
      due("dark " + shape, x.dark(shape, 0), UNKNOWN);
      due("moved " + shape, x.moved(shape, 0), UNKNOWN);
      due("chance " + shape, x.chance(shape, 0, 0, 0), FogCuts.LOST + UNKNOWN);
    }
    due("stands 1", x.stands(1), 1);
    due("does not stand", wants(x, 1, 1, "a2").stands(1), 0);
  }
  private static void moreThanHours() {
    sentence("NO: there is a FAULT, or more than hours; FULL: the SHAPE wants more than 3.");
    FogCuts x = wants(of(1, 4, "9999"), 0, 0, "a9b9c9");
    dueNowThen("wants 3", x, 0, 0);
    dueNowThen("wants 3, a cut", pad(x, "a0"), NO, NO);
    wants(x, 0, 0, "d9");
    dueNowThen("wants 4, a cut", x, NO, NO);
    dueNowThen("wants 4, a fault", pad(x, "?"), NO, NO);
    dueNowThen("wants 4", pad(x, "."), FULL, FULL);
  }
  private static void moreThanEightLamps() {
    sentence("FULL: more than 8 LAMPS.");
    FogCuts x = wants(lit(of(3, 3, ""), "abcdefgh"), 0, 0, "i0");
    dueDark("8", x, 0, 0);
    lit(x, "i");
    dueDark("9", x, FULL, FULL);
    dueDark("9, a cut", pad(x, "a0"), NO, NO);
    dueDark("9, a fault", pad(x, "a"), NO, NO);
    x.cell(8, 1, 0);
    dueDark("8, a lamp on the pad", pad(x, "i*"), NO, NO);
    dueDark("8 again", pad(x, "."), 0, 0);
  }
  private static void unknownBoth() {
    sentence("WALK: SPOILT (what = 0), steps (1), the first CELL (2). UNKNOWN: both; OUTSIDE.");
    FogCuts x = of(2, 2, "");
    for (int cell : new int[] {-1, 4, LEAST, MOST}) {
      due("from " + cell, x.walk(cell, 0, 0), UNKNOWN);
      due("to " + cell, x.walk(0, cell, 0), UNKNOWN);
      due("from and to " + cell, x.walk(cell, cell, 2), UNKNOWN);
    }
    due("to the last", x.walk(0, 3, 1), 2);
    due("what -1", x.walk(0, 3, -1), OUTSIDE);
    due("what 3", x.walk(0, 3, 3), OUTSIDE);
  }
  private static void shapeUnknownBoth() {
    sentence("UNKNOWN: both; OUTSIDE.");
    FogCuts x = of(2, 2, "");
    due("shape 4", x.shape(4, 0, 0), UNKNOWN);
    due("cell 4", x.shape(0, 4, 0), UNKNOWN);
    due("shape -1", x.shape(-1, 0, 10), UNKNOWN);
    due("cell -1", x.shape(0, -1, 10), UNKNOWN);
    due("the last of both", x.shape(3, 3, 9), 1);
  }
  private static void keptInAnImage() {
    sentence("All but the PAD is kept in an IMAGE (0, 1): 1. OUTSIDE.");
    FogCuts x = pad(wants(lit(of(2, 2, "1234"), "d"), 2, 1, "c7"), ".");
    x.set(0, 4);
    x.seen(0, 1);
    due("image 0", x.image(0), 1);
    due("image 2", x.image(2), OUTSIDE);
    due("image -1", x.image(-1), OUTSIDE);
    x.bank(4, 6);
    due("image 1", x.image(1), 1);
    pad(x, "..x+");
    due("restored", x.restore(0), 1);
    int[] want = {4, 2, 2, 4, 2, 8, 1, 10};
    for (int what = 0; what < 8; what++) due("told " + what, x.told(what), want[what]);
    due("wanted", x.told(202), 7);
    due("the pad is as it was", x.fault(), 2);
    x.wipe();
    due("the sight is as it was", x.what(-1), 9);
    dueFog("the lamp is as it was", behind(x, "."), "1122");
    due("the other", x.restore(1), 1);
    due("the other is no fog", x.told(7), 0);
  }
  private static void asItWasKept() {
    sentence("It is as it was when it was kept: 1. OUTSIDE; STATE: it was not.");
    FogCuts x = of(1, 1, "5");
    due("0 was not", x.restore(0), STATE);
    due("1 was not", x.restore(1), STATE);
    due("2", x.restore(2), OUTSIDE);
    due("-1", x.restore(-1), OUTSIDE);
    x.image(1);
    due("0 was still not", x.restore(0), STATE);
    x.cell(0, 0, 9);
    due("1", x.restore(1), 1);
    due("as it was", x.state(0, 0), 5);
    x.cell(0, 0, 3);
    due("1 once more", x.restore(1), 1);
    due("as it was once more", x.state(0, 0), 5);
    x.cell(0, 0, 4);
    x.image(1);
    x.cell(0, 0, 0);
    x.restore(1);
    due("as it was kept last", x.state(0, 0), 4);
    due("0 was not, in the end", x.restore(0), STATE);
  }
  private static void toldBounds() {
    sentence("100 times (1 and a SHAPE) and a CELL: what it wants (-1: it does not want it). OUTSIDE.");
    FogCuts x = wants(wants(of(4, 6, ""), 0, 0, "a0"), 0, 3, "x9");
    due("the first", x.told(100), 0);
    due("the last", x.told(423), 9);
    due("not wanted", x.told(123), -1);
    due("not wanted", x.told(400), -1);
    for (int what : new int[] {-1, 8, 9, 10, 23, 99, 124, 150, 199, 224, 324, 424, 499, 500, 523, -100, -77, -101, LEAST, MOST}) {
      due("told " + what, x.told(what), OUTSIDE);
    }
    x.bank(1, 1);
    due("the only cell", x.told(400), -1);
    due("the second of one", x.told(401), OUTSIDE);
  }
  private static void toldEmptyAndFull() {
    sentence("0 signs, 1 ROWS, 2 COLUMNS, 3 FEED, 4 SLACK, 5 LAMPS (bits), 6 SIGHTS, 7 how THICK all are, together");
    FogCuts x = of(4, 6, times("9", 24));
    for (int cell = 0; cell < 24; cell++) x.cell(cell, 1, 1);
    for (int i = 0; i < 9; i++) x.seen(0, 0);
    pad(x, times(".", 61));
    x.set(0, 5);
    x.set(1, 3);
    int[] full = {60, 4, 6, 5, 3, (1 << 24) - 1, 8, 216};
    for (int what = 0; what < 8; what++) due("full, told " + what, x.told(what), full[what]);
    x.wipe();
    x.forget();
    x.bank(1, 1);
    x.set(0, 1);
    x.set(1, 0);
    int[] empty = {0, 1, 1, 1, 0, 0, 0, 0};
    for (int what = 0; what < 8; what++) due("empty, told " + what, x.told(what), empty[what]);
  }

  private static void banksAndNights() {
    bankSizes();
    cellsRowByRow();
    soThick();
    lampOrNone();
    feed();
    slack();
    lampLosesTwo();
    besideLosesOne();
    besideEndsAtTheEdge();
    ofAnHourWithoutLamps();
    allAtOnce();
    lessThick();
    givesAwayAtTheEdge();
    lampsAheadOfWind();
    river();
    padOf60();
    codes();
    hourSigns();
    acts();
    actSigns();
    faultFromZeroOn();
    faultOfALetter();
    moreMustCome();
    noThicker();
    itIsNine();
    leastReason();
  }
  private static void nightsAndShapes() {
    judgedFromZeroOn();
    allIsSoThen();
    emptyThen();
    notBeingDone();
    noneAtFirst();
    slackMoreOrLess();
    eachOfThese();
    lostFromZeroOn();
    allZero();
    bitsOfRows();
  }
  private static void carving() {
    fewestActs();
    cellsOfTheShape();
    noCutsAtAll();
    leastCells();
    hoursAlone();
    eightLamps();
    leastLamps();
    staysInTheBank();
    byHowMuch();
    moreThanTwiceSlack();
    theIth();
    apartBelow();
    spoilt();
    oneIsThere();
    fewestStepsOfThese();
    besideEachOther();
  }
  private static void crewsSightsChance() {
    nothingToCut();
    firstCut();
    setOfCells();
    eightSights();
    cutsThatFit();
    cutsBehindHours();
    whatBelow();
    eachOfMHours();
    windyToTheEast();
    chanceOfNoHours();
    yearBounds();
    hoursOfAYear();
    leftOver();
    hoursNotStood();
    mostBehind();
    notInFact();
  }
  private static void promises() {
    newObject();
    allAsAtFirst();
    bankKeepsThePad();
    whichItWas();
    feedOrSlackWas();
    notWantedAnyMore();
    signsGo();
    sightsGo();
    faultOrNone();
    noThereIsAFault();
    noAsOfDone();
    unknownIfItIsNone();
    moreThanHours();
    moreThanEightLamps();
    unknownBoth();
    shapeUnknownBoth();
    keptInAnImage();
    asItWasKept();
    toldBounds();
    toldEmptyAndFull();
  }

  public static void main(String[] args) throws IOException {
    Path path = Path.of("../shared/DOC.md");
    document = Files.exists(path) ? Files.readString(path).replaceAll("\\s+", " ") : "";
    calls512();
    noSuchCell();
    noSuchShape();
    firstThatFits();
    lowestTerms();
    lostAndTheRefusal();
    setsAreBits();
    banksAndNights();
    nightsAndShapes();
    carving();
    crewsSightsChance();
    promises();
    System.out.println(wrong == 0 ? sentences + " tests of sentences hold" : wrong + " answers are not as due");
    if (wrong != 0) System.exit(1);
  }
}
