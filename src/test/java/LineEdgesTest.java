/** DOC.md, Terms, "The line": each sentence that names an edge, quoted at its test. */
public final class LineEdgesTest {
  private static final String OUT_OF_RANGE = Story.OUT_OF_RANGE;
  private static final String NOT_NOW = Story.NOT_NOW;
  private static final Story NEW = new Story("a new object");
  private static final int DAY = 1440;

  public static void main(String[] args) {
    atMostTwelve();
    aheadOfTheFirstMinute();
    aheadOfAllThatIsPut();
    toldOfTheFirstOneToo();
    stretchesBetween();
    atMostThreeHills();
    lessThanItIsLong();
    endsOfTheWays();
    lineRoundedDown();
    seenBothWays();
    clearAtFirst();
    hazyAtMostTen();
    byDay();
    takenByDay();
    minutesFromZero();
    Checks.finish("LineEdgesTest");
  }

  private static Story level(int towers) {
    return NEW.on(towers + " towers").times(towers, "tower", 50, 5);
  }

  /** "Towers are numbered from 0, at most 12, one behind the other as they are built": the 12th is, the 13th is not. */
  private static void atMostTwelve() {
    for (int towers = 0; towers < 12; towers++) {
      level(towers).answers(towers, "towers").answers(towers, "tower", 50, 5);
    }
    Story full = level(12);
    full.answers(12, "towers").answers(-1, "shows", 11, true).refuses(NOT_NOW, "tower", 50, 5);
    full.refuses(Story.NO_SUCH, "shows", 12, true);
  }

  /** "ahead of the first minute": not behind one, whether there are towers by then or not. */
  private static void aheadOfTheFirstMinute() {
    for (int towers = 0; towers < 3; towers++) {
      level(towers).on("a minute").then("pass", 1).refuses(NOT_NOW, "tower", 50, 5);
      level(towers).on("a refused minute").refused("pass", 0).answers(towers, "tower", 50, 5);
      level(towers).on("too many minutes").refused("pass", 201).answers(towers, "tower", 50, 5);
    }
  }

  /** "and of all that is put": a mark, a dispatch; what is refused was not put, and all else does not count. */
  private static void aheadOfAllThatIsPut() {
    Story text = level(2).then("write", 0, 1, 2, 7).then("type", 7);
    text.on("a mark up").then("mark", 0, true, false).refuses(NOT_NOW, "tower", 50, 5);
    text.on("an ERROR down").then("mark", 1, false, true).refuses(NOT_NOW, "tower", 50, 5);
    text.on("a dispatch up").then("send", false, 0, false).refuses(NOT_NOW, "tower", 50, 5);
    text.on("an urgent one down").then("send", true, 0, true).refuses(NOT_NOW, "tower", 50, 5);
    text.on("a refused mark").refused("mark", 1, true, false).answers(2, "tower", 50, 5);
    text.on("a refused dispatch").refused("send", false, 1, false).answers(2, "tower", 50, 5);
    text.on("hill").then("hill", 0, 9, 1).answers(2, "tower", 50, 5);
    text.on("air").then("air", 0, 2).answers(2, "tower", 50, 5);
    text.on("tire").then("tire", 0, 9).answers(2, "tower", 50, 5);
    text.on("seed").then("seed", 9).answers(2, "tower", 50, 5);
    text.on("clear").then("clear").answers(2, "tower", 50, 5);
    text.on("spy").then("spy", 0).answers(2, "tower", 50, 5);
  }

  /** "told of the first one, too, where it does not matter": but 0 and 21 are refused there, too. */
  private static void toldOfTheFirstOneToo() {
    NEW.refuses(OUT_OF_RANGE, "tower", 50, 0);
    NEW.refuses(OUT_OF_RANGE, "tower", 50, 21);
    Story near = NEW.on("1 ahead of none").then("tower", 30, 1).then("tower", 50, 11).then("hill", 0, 48, 10);
    Story far = NEW.on("20 ahead of none").then("tower", 30, 20).then("tower", 50, 11).then("hill", 0, 48, 10);
    near.endsAs(far);
    near.then("air", 0, 1).endsAs(far.then("air", 0, 1));
  }

  /** "The stretch s is between the towers s and s + 1": of n towers there are n - 1, and none of one or of none. */
  private static void stretchesBetween() {
    for (int towers = 0; towers <= 12; towers++) {
      Story line = level(towers);
      for (int stretch = 0; stretch < towers - 1; stretch++) {
        line.answers(true, "sees", stretch).answers(0, "air", stretch, 0).answers(1, "hill", stretch, 0, 1);
      }
      int none = Math.max(0, towers - 1);
      line.answers(Story.NO_SUCH, "sees", none).answers(Story.NO_SUCH, "air", none, 0);
      line.answers(Story.NO_SUCH, "hill", none, 0, 1).answers(Story.NO_SUCH, "sees", -1);
    }
    // What lies in a stretch lies in no other one.
    Story line = level(4).then("hill", 1, 99, 1);
    line.answers(true, "sees", 0).answers(false, "sees", 1).answers(true, "sees", 2);
    line.on("fog").then("air", 2, 2).answers(true, "sees", 0).answers(false, "sees", 2);
  }

  /** "hills may lie there, at most 3": of each stretch for itself, and at one place, too. */
  private static void atMostThreeHills() {
    Story line = level(3);
    for (int hills = 1; hills <= 3; hills++) {
      line.answers(hills, "hill", 0, 10, 2).then("hill", 0, 10, 2);
    }
    line.refuses(NOT_NOW, "hill", 0, 10, 2);
    line.refuses(NOT_NOW, "hill", 0, 99, 1);
    line.answers(true, "sees", 0).answers(1, "hill", 1, 10, 2);
    // Each of the three stands.
    for (int high = 0; high < 3; high++) {
      Story story = level(2);
      for (int i = 0; i < 3; i++) {
        story.answers(true, "sees", 0).then("hill", 0, i == high ? 51 : 50, i + 1);
        if (i == high) {
          break;
        }
      }
      story.answers(false, "sees", 0);
    }
  }

  /** "from 1 to less than it is long": every place of every length. */
  private static void lessThanItIsLong() {
    for (int length = 1; length <= 20; length++) {
      Story line = NEW.on("a stretch of " + length).then("tower", 50, 9).then("tower", 50, length);
      for (int place = -1; place <= 21; place++) {
        boolean isThere = place >= 1 && place < length;
        line.answers(isThere ? "1" : OUT_OF_RANGE, "hill", 0, 50, place);
      }
    }
  }

  /** "The end of the way up is the last tower, that of the way down the tower 0"; of one tower, it is both. */
  private static void endsOfTheWays() {
    for (int towers = 1; towers <= 12; towers++) {
      Story line = level(towers);
      for (int tower = 0; tower < towers; tower++) {
        line.answers(tower == towers - 1 ? NOT_NOW : "1", "mark", tower, true, true);
        line.answers(tower == 0 ? NOT_NOW : "1", "mark", tower, false, true);
      }
    }
  }

  /** "divided by how long the stretch is, rounded down, together": a hill as high as that, and one higher by 1. */
  private static void lineRoundedDown() {
    int[][] heights = {{0, 99}, {99, 0}, {50, 51}, {51, 50}, {0, 0}, {98, 98}, {10, 17}, {17, 10}, {0, 1}, {1, 0}};
    for (int[] pair : heights) {
      for (int length = 2; length <= 20; length++) {
        for (int place = 1; place < length; place++) {
          // Counted down from the top, to have no division that may round otherwise.
          int line = 99;
          while ((line - pair[0]) * length > (pair[1] - pair[0]) * place) {
            line--;
          }
          hillAt(pair, length, place, line, true);
          hillAt(pair, length, place, line + 1, false);
        }
      }
    }
  }

  private static void hillAt(int[] pair, int length, int place, int height, boolean due) {
    ArmtowerLine x = new ArmtowerLine();
    x.tower(pair[0], 1);
    x.tower(pair[1], length);
    x.hill(0, height, place);
    String where = pair[0] + " to " + pair[1] + " on " + length + ", a hill of " + height + " at " + place;
    Checks.equal(where, x.sees(0), due);
  }

  /** "A stretch can be seen along, both ways, if no hill in it is above the straight line". */
  private static void seenBothWays() {
    for (int height = 50; height <= 51; height++) {
      Story line = level(2).then("hill", 0, height, 2).then("mark", 0, true, true).then("mark", 1, false, true);
      int taken = height == 50 ? 1 : 0;
      line.then("pass", 2).answers(taken, "logs", 1, true).answers(taken, "logs", 0, false);
    }
  }

  /** "if its air is 0 clear, as at first": the longest stretch, too. */
  private static void clearAtFirst() {
    Story line = NEW.on("20 long").then("tower", 0, 1).then("tower", 0, 20);
    line.answers(true, "sees", 0).answers(0, "air", 0, 0);
    line.then("air", 0, 2).answers(false, "sees", 0).answers(2, "air", 0, 0);
    line.then("air", 0, 0).answers(true, "sees", 0);
  }

  /** "or 1 hazy and it is at most 10 long, but not 2 foggy": every length in every air. */
  private static void hazyAtMostTen() {
    for (int length = 1; length <= 20; length++) {
      Story line = NEW.on(length + " long").then("tower", 50, 5).then("tower", 50, length);
      line.on("clear").then("air", 0, 0).answers(true, "sees", 0);
      line.on("hazy").then("air", 0, 1).answers(length <= 10, "sees", 0);
      line.on("foggy").then("air", 0, 2).answers(false, "sees", 0);
    }
  }

  /** "and by day: the remainder of the minute by 1440 is 360 to 1079": the first three days and a late one. */
  private static void byDay() {
    Story line = level(2).answers(true, "sees", 0);
    for (int day : new int[] {0, 1, 2, 50}) {
      int midnight = DAY * day;
      if (day > 0) {
        line.until(midnight - 1).answers(false, "sees", 0).until(midnight).answers(false, "sees", 0);
        line.until(midnight + 359).answers(false, "sees", 0).until(midnight + 360).answers(true, "sees", 0);
      }
      line.until(midnight + 361).answers(true, "sees", 0).until(midnight + 1079).answers(true, "sees", 0);
      line.until(midnight + 1080).answers(false, "sees", 0).until(midnight + 1081).answers(false, "sees", 0);
    }
    line.answers(50 * DAY + 1081, "minute");
  }

  /** The same of what is taken: a sign that is shown is taken at 1079 and at 1800, and not at 1080 or 1799. */
  private static void takenByDay() {
    for (int day = 0; day < 2; day++) {
      int dusk = DAY * day + 1080;
      Story line = level(2).on("the day " + day).until(dusk - 2).then("mark", 0, true, false).then("pass", 1);
      line.answers(95, "shows", 0, true).answers(0, "logs", 1, true).until(dusk);
      // Shown since the last minute of the day, it waits for the first one of the next day.
      line.answers(95, "shows", 0, true).answers(0, "logs", 1, true).until(dusk + 719);
      line.answers(95, "shows", 0, true).answers(0, "logs", 1, true).until(dusk + 720);
      line.answers(-1, "shows", 0, true).answers(dusk + 720, "log", 1, true, 0, 0);
      Story earlier = level(2).on("a minute earlier").until(dusk - 3).then("mark", 0, true, false).then("pass", 1);
      earlier.answers(0, "logs", 1, true).then("pass", 1).answers(dusk - 1, "log", 1, true, 0, 0);
    }
  }

  /** "Minutes are counted from 0; now is 360 at first": so many minutes at once, or one by one, lead to the same. */
  private static void minutesFromZero() {
    NEW.answers(360, "minute").answers(361, "pass", 1).answers(560, "pass", 200);
    Story sent = level(3).then("write", 0, 1, 2, 7).then("type", 7).then("spy", 1).then("tire", 1, 600);
    sent.then("send", false, 0, false).then("send", true, 0, true).then("send", false, 0, true);
    sent.on("at once").then("pass", 9).endsAs(sent.on("one by one").times(9, "pass", 1));
    sent.on("at once").then("pass", 200).endsAs(sent.on("in two").then("pass", 199).then("pass", 1));
  }
}
