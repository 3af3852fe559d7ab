import java.util.ArrayList;
import java.util.List;

/**
 * No question's answer depends on what was asked before it: in drawn states each question is asked of an object of its
 * own, then all of them, in drawn orders, of one object, which in between is another bank with questions of its own.
 */
public final class FogCutsOrder {
  private static final int STATES = 3000, ASKED = 160;
  private static int wrong = 0;
  private static long seed = 7;

  private interface Call { long of(FogCuts x); }

  private static final class Question {
    final String name;
    final Call call;
    long due;
    Question(String name, Call call) { this.name = name; this.call = call; }
  }

  private static int draw(int below) {
    seed = seed * 6364136223846793005L + 1442695040888963407L;
    return (int) ((seed >>> 33) % below);
  }

  /** The same calls each time, for the same number; few numbers and few cells, so that much comes out alike. */
  private static FogCuts make(long number) {
    long kept = seed;
    seed = number;
    FogCuts x = new FogCuts();
    fill(x);
    for (int n = draw(4) == 0 ? 0 : draw(5); n > 0; n--) x.say(".^>_<~".charAt(draw(6)));
    if (draw(5) == 0) { x.say('a'); x.say("0+*".charAt(draw(3))); }
    seed = kept;
    return x;
  }
  private static void fill(FogCuts x) {
    int cells = x.bank(1 + draw(4), 1 + draw(6)), thick = 1 + draw(5);
    for (int cell = 0; cell < cells; cell++) x.cell(cell, 0, Math.max(0, thick - draw(3)));
    for (int n = draw(6); n > 0; n--) x.cell(draw(cells), 1, 1);
    x.set(0, 1 + draw(5));
    x.set(1, draw(2));
    for (int shape = 0; shape < 4; shape++) {
      for (int n = draw(4); n > 0; n--) x.shape(shape, draw(cells), Math.max(0, thick - draw(4)));
    }
    for (int n = draw(3); n > 0; n--) x.seen(draw(cells), Math.max(0, thick - draw(3)));
  }

  private static void add(List<Question> all, String name, Call call) { all.add(new Question(name, call)); }

  private static void ofShapes(List<Question> all) {
    for (int s = 0; s < 4; s++) {
      int shape = s;
      add(all, "stands(" + s + ")", x -> x.stands(shape));
      add(all, "lost(" + s + ")", x -> x.lost(shape));
      add(all, "carved(" + s + ")", x -> x.carved(shape));
      for (int w = 0; w < 2; w++) {
        int what = w;
        add(all, "nowThen(" + s + ", " + w + ")", x -> x.nowThen(shape, what));
        add(all, "dark(" + s + ", " + w + ")", x -> x.dark(shape, what));
        add(all, "moved(" + s + ", " + w + ")", x -> x.moved(shape, what));
        add(all, "chance(" + s + ", 3, 3, " + w + ")", x -> x.chance(shape, 3, 3, what));
      }
    }
  }
  private static void ofCells(List<Question> all, int cells) {
    for (int c = 0; c < cells; c++) {
      int cell = c, far = cells - 1 - c;
      for (int w = 0; w < 3; w++) {
        int what = w;
        add(all, "walk(" + c + ", " + far + ", " + w + ")", x -> x.walk(cell, far, what));
        add(all, "state(" + c + ", " + w + ")", x -> x.state(cell, what));
        add(all, "behind(" + c + ", " + w + ")", x -> x.behind(cell, what));
      }
    }
  }
  private static List<Question> questions(int cells) {
    List<Question> all = new ArrayList<>();
    ofShapes(all);
    ofCells(all, cells);
    for (int n = -1; n < 4; n++) {
      int i = n;
      add(all, "apart(" + n + ")", x -> x.apart(i));
      add(all, "what(" + n + ")", x -> x.what(i));
      add(all, "judge(" + n + ")", x -> x.judge(i));
      add(all, "year(77, 30, " + n + ")", x -> x.year(77, 30, i));
      add(all, "told(" + n + ")", x -> x.told(i));
      add(all, "told(" + (n + 4) + ")", x -> x.told(i + 4));
      add(all, "told(" + 101 * (n + 1) + ")", x -> x.told(101 * (i + 1)));
      add(all, "wins(" + 5 * n + ")", x -> x.wins(5 * i));
      add(all, "cut(" + 5 * n + ")", x -> x.cut(5 * i));
    }
    add(all, "where()", x -> x.where());
    add(all, "through()", x -> x.through());
    add(all, "fault()", x -> x.fault());
    return all;
  }

  /** Each answer is due in its own state alone; nothing is due in the other bank's. */
  private static void elsewhere(FogCuts x, List<Question> all) {
    x.image(1);
    fill(x);
    for (int n = 0; n < 20; n++) all.get(draw(all.size())).call.of(x);
    x.restore(1);
  }
  private static void state(long number) {
    FogCuts x = make(number);
    List<Question> all = questions(x.told(1) * x.told(2));
    for (Question q : all) q.due = q.call.of(make(number));
    for (int n = 0; n < ASKED; n++) {
      if (n == ASKED / 2) elsewhere(x, all);
      Question q = all.get(draw(all.size()));
      long got = q.call.of(x);
      if (got != q.due) {
        wrong++;
        System.out.println("state " + number + ": " + q.name + " answered " + got + ", asked first it answers " + q.due);
      }
    }
  }

  public static void main(String[] args) {
    for (int i = 0; i < STATES && wrong < 10; i++) state(1000003L * i);
    System.out.println(wrong == 0 ? "no answer depends on what was asked before" : wrong + " answers depend on it");
    if (wrong != 0) System.exit(1);
  }
}
