/** Promises 1 to 6 and 13 to 16: a new object, the land and the hours. */
public final class LineTest {
  private static final int DAWN_AFTER = 1440 + 360;

  public static void main(String[] args) {
    newObject();
    tower();
    towerNoMore();
    hill();
    hillsAndSight();
    air();
    tire();
    seed();
    pass();
    hours();
    Checks.finish("LineTest");
  }

  private static void newObject() {
    ArmtowerLine x = new ArmtowerLine();
    Checks.equal("new: minute()", x.minute(), 360);
    Checks.equal("new: towers()", x.towers(), 0);
    Checks.equal("new: clear()", x.clear(), 0);
    Checks.equal("new: came(true)", x.came(true), 0);
    Checks.equal("new: came(false)", x.came(false), 0);
    Checks.equal("new: open(true)", x.open(true), 0);
    Checks.equal("new: open(false)", x.open(false), 0);
    Checks.equal("new: seed(0)", x.seed(0), 0);
    for (int book = 0; book < 3; book++) {
      Checks.equal("new: write into book " + book, x.write(book, 91, 91, -1), -1);
      Checks.equal("new: write into book " + book, x.write(book, 0, 0, -1), -1);
    }
    Checks.noSuch("new: seen(0)", () -> x.seen(0));
    Checks.equal("new: pass(1)", x.pass(1), 361);
    Checks.equal("new: towers() behind a minute", x.towers(), 0);
  }

  private static void tower() {
    ArmtowerLine x = new ArmtowerLine();
    int[][] wrong = {{-1, 1}, {100, 1}, {0, 0}, {0, 21}, {Integer.MIN_VALUE, 5}, {5, Integer.MAX_VALUE}};
    for (int[] w : wrong) {
      Checks.outOfRange("tower(" + w[0] + ", " + w[1] + ")", () -> x.tower(w[0], w[1]));
    }
    Checks.equal("towers() behind refused ones", x.towers(), 0);
    Checks.equal("tower(0, 1)", x.tower(0, 1), 0);
    Checks.equal("tower(99, 20)", x.tower(99, 20), 1);
    for (int i = 2; i < 12; i++) {
      Checks.equal("the tower " + i, x.tower(50, 10), i);
    }
    Checks.equal("towers()", x.towers(), 12);
    Checks.notNow("the 13th tower", () -> x.tower(50, 10));
    Checks.outOfRange("the 13th tower, too high", () -> x.tower(100, 10));
    Checks.equal("towers() behind the 13th", x.towers(), 12);
    Checks.equal("a new tower shows nothing", x.shows(11, false), -1);
    Checks.equal("a new tower keeps nothing", x.keeps(11, false, 0), -1);
    Checks.equal("a new tower logs nothing", x.logs(11, true), 0);
  }

  private static void towerNoMore() {
    ArmtowerLine passed = Checks.plain(1);
    Checks.outOfRange("pass(0)", () -> passed.pass(0));
    Checks.equal("tower behind a refused pass", passed.tower(50, 5), 1);
    passed.pass(1);
    Checks.notNow("tower behind a minute", () -> passed.tower(50, 5));
    Checks.outOfRange("tower behind a minute, too far", () -> passed.tower(50, 21));
    Checks.equal("towers() behind a minute", passed.towers(), 2);

    ArmtowerLine marked = Checks.plain(2);
    Checks.notNow("mark at the end", () -> marked.mark(1, true, true));
    Checks.equal("tower behind a refused mark", marked.tower(50, 5), 2);
    marked.mark(1, true, false);
    Checks.notNow("tower behind a mark", () -> marked.tower(50, 5));

    ArmtowerLine sent = Checks.withText(2, 1);
    Checks.notNow("send by an empty book", () -> sent.send(false, 1, false));
    Checks.equal("tower behind a refused send", sent.tower(50, 5), 2);
    sent.send(true, 0, false);
    Checks.notNow("tower behind a dispatch", () -> sent.tower(50, 5));

    ArmtowerLine other = Checks.plain(2);
    other.hill(0, 3, 3);
    other.air(0, 2);
    other.tire(0, 5);
    other.seed(5);
    other.spy(0);
    other.write(0, 0, 0, 0);
    other.type(0);
    Checks.equal("tower behind what is not put", other.tower(50, 5), 2);
    Checks.notNow("hence the tower 2 is the last one", () -> other.spy(2));
    Checks.equal("the tower 1 is it no longer", other.spy(1), 1);
  }

  private static void hill() {
    ArmtowerLine x = new ArmtowerLine();
    Checks.noSuch("hill without towers", () -> x.hill(0, 0, 1));
    x.tower(10, 20);
    Checks.noSuch("hill with one tower", () -> x.hill(0, 0, 1));
    x.tower(10, 4);
    x.tower(10, 1);
    Checks.noSuch("hill(-1)", () -> x.hill(-1, 0, 1));
    Checks.noSuch("hill(2)", () -> x.hill(2, 0, 1));
    Checks.noSuch("hill(2), all wrong", () -> x.hill(2, 100, 0));
    int[][] wrong = {{-1, 1}, {100, 1}, {0, 0}, {0, 4}, {0, -1}, {0, Integer.MAX_VALUE}};
    for (int[] w : wrong) {
      Checks.outOfRange("hill(0, " + w[0] + ", " + w[1] + ")", () -> x.hill(0, w[0], w[1]));
    }
    Checks.outOfRange("no place in a stretch of 1", () -> x.hill(1, 0, 1));
    Checks.equal("hill 1", x.hill(0, 0, 1), 1);
    Checks.equal("hill 2", x.hill(0, 0, 3), 2);
    x.pass(1);
    Checks.equal("hill 3, behind a minute", x.hill(0, 0, 3), 3);
    Checks.notNow("hill 4", () -> x.hill(0, 99, 2));
    Checks.outOfRange("hill 4, too high", () -> x.hill(0, 100, 2));
    Checks.equal("a refused hill does not stand", x.sees(0), true);
  }

  private static void hillsAndSight() {
    // The line at each place from 1 on, rounded down: up by 10 on 4, and down by 10 on 4.
    int[] rising = {12, 15, 17};
    int[] falling = {17, 15, 12};
    for (int place = 1; place < 4; place++) {
      sight(10, 20, 4, place, rising[place - 1]);
      sight(20, 10, 4, place, falling[place - 1]);
      sight(20, 20, 4, place, 20);
    }
    sight(60, 20, 11, 1, 56);
    sight(60, 20, 11, 10, 23);
    sight(99, 0, 20, 19, 4);
    sight(0, 99, 20, 1, 4);
    // The height of the first tower does not count for how far the second one is.
    ArmtowerLine x = new ArmtowerLine();
    x.tower(10, 2);
    x.tower(10, 9);
    Checks.equal("hill(0, 11, 8)", x.hill(0, 11, 8), 1);
    Checks.equal("a hill above level towers", x.sees(0), false);
  }

  private static void sight(int near, int far, int length, int place, int highest) {
    String where = near + " to " + far + " on " + length + " at " + place;
    ArmtowerLine x = new ArmtowerLine();
    x.tower(near, 1);
    x.tower(far, length);
    x.hill(0, highest, place);
    Checks.equal("a hill as high as the line, " + where, x.sees(0), true);
    x.hill(0, highest + 1, place);
    Checks.equal("a hill above the line, " + where, x.sees(0), false);
  }

  private static void air() {
    ArmtowerLine x = new ArmtowerLine();
    Checks.noSuch("air without towers", () -> x.air(0, 0));
    x.tower(50, 1);
    x.tower(50, 10);
    x.tower(50, 11);
    Checks.noSuch("air(2)", () -> x.air(2, 0));
    Checks.noSuch("air(-1)", () -> x.air(-1, 0));
    Checks.noSuch("air(2), too thick", () -> x.air(2, 3));
    Checks.outOfRange("air(0, 3)", () -> x.air(0, 3));
    Checks.outOfRange("air(0, -1)", () -> x.air(0, -1));
    Checks.equal("air(0, 1)", x.air(0, 1), 0);
    Checks.equal("hazy and 10 long", x.sees(0), true);
    Checks.equal("air(1, 1)", x.air(1, 1), 0);
    Checks.equal("hazy and 11 long", x.sees(1), false);
    Checks.equal("air(0, 2)", x.air(0, 2), 1);
    Checks.equal("foggy", x.sees(0), false);
    Checks.equal("air(1, 0)", x.air(1, 0), 1);
    Checks.equal("clear and 11 long", x.sees(1), true);
    Checks.equal("air(0, 0)", x.air(0, 0), 2);
    Checks.equal("clear again", x.sees(0), true);
  }

  private static void tire() {
    ArmtowerLine x = Checks.withText(3, 1);
    Checks.noSuch("tire(3)", () -> x.tire(3, 0));
    Checks.noSuch("tire(-1), too tired", () -> x.tire(-1, 1010));
    Checks.outOfRange("tire(0, 1010)", () -> x.tire(0, 1010));
    Checks.outOfRange("tire(0, -1)", () -> x.tire(0, -1));
    Checks.equal("tire(1, 1009)", x.tire(1, 1009), 0);
    x.send(false, 0, false);
    x.send(true, 0, false);
    x.pass(10);
    for (boolean up : new boolean[] {true, false}) {
      int[] signs = {92, 0, 3, 93};
      for (int i = 0; i < 4; i++) {
        Checks.equal("a wholly tired tower reads, up " + up, x.log(1, up, i, 1), signs[i]);
        Checks.equal("and the next one as it was read, up " + up, x.log(up ? 2 : 0, up, i, 1), signs[i]);
      }
    }
    Checks.equal("tire(1, 0)", x.tire(1, 0), 1009);
    x.send(false, 0, false);
    x.pass(10);
    Checks.equal("a fresh tower reads", x.log(1, true, 5, 1), 1);
    ArmtowerLine ends = Checks.withText(2, 1);
    ends.tire(1, 1009);
    ends.send(false, 0, false);
    ends.pass(6);
    Checks.equal("a tired end reads", ends.log(1, true, 1, 1), 0);
    ends.write(1, 0, 3, 77);
    Checks.equal("and so it is on the tape", ends.phrase(true, 0, 0, 1), 77);
  }

  private static void seed() {
    ArmtowerLine x = new ArmtowerLine();
    Checks.outOfRange("seed(-1)", () -> x.seed(-1));
    Checks.outOfRange("seed(10000)", () -> x.seed(10000));
    Checks.equal("seed(9999)", x.seed(9999), 0);
    Checks.outOfRange("seed(10000) again", () -> x.seed(10000));
    Checks.equal("seed(1)", x.seed(1), 9999);
    int[] seeds = {0, 77, 508, 1008, 1009, 4321, 9999};
    for (int seed : seeds) {
      readings(seed, 500);
      readings(seed, 1);
      readings(seed, 1008);
    }
    for (int tower = 1; tower < 12; tower++) {
      readingsAt(tower);
    }
  }

  /** Sends 12 phrases up a long line on which one tower alone is tired. */
  private static void readingsAt(int tower) {
    ArmtowerLine x = Checks.plain(12);
    for (int i = 0; i < 12; i++) {
      x.write(0, i * 3, 60 - i, i);
      x.type(i);
    }
    x.tire(tower, 500);
    x.send(false, 0, false);
    x.pass(60);
    for (int i = 0; i < 24; i++) {
      int sign = i % 2 == 0 ? i / 2 * 3 : 60 - i / 2;
      int at = 362 + tower + i;
      Checks.entry("one tired", x, tower, true, i + 1, at, read(at, tower, sign, 0, 500), 0);
    }
  }

  /** Sends all 12 phrases, and compares what the tower 1 read with what the document's sum asks for. */
  private static void readings(int seed, int tiredness) {
    ArmtowerLine x = Checks.plain(3);
    for (int i = 0; i < 12; i++) {
      x.write(0, i * 8, 91 - i * 7, i);
      x.type(i);
    }
    x.seed(seed);
    x.tire(1, tiredness);
    x.tire(0, tiredness);
    x.send(false, 0, false);
    x.send(true, 0, false);
    x.pass(40);
    for (int i = 0; i < 24; i++) {
      int sign = i % 2 == 0 ? i / 2 * 8 : 91 - i / 2 * 7;
      // The tower 1 reads it of the towers 0 and 2 alike; the tower 0 a minute later, as the tower 1 read it.
      int at = 363 + i;
      int read = read(at, 1, sign, seed, tiredness);
      Checks.entry("seed " + seed + " tired " + tiredness, x, 1, true, i + 1, at, read, 0);
      Checks.entry("seed " + seed + " tired " + tiredness, x, 1, false, i + 1, at, read, 0);
      int end = read(at + 1, 0, read, seed, tiredness);
      Checks.entry("seed " + seed + " tired " + tiredness, x, 0, false, i + 1, at + 1, end, 0);
    }
    Checks.equal("BEGIN is not misread", x.log(1, true, 0, 1), 92);
    Checks.equal("END is not misread", x.log(1, true, 25, 1), 93);
  }

  private static int read(int minute, int tower, int sign, int seed, int tiredness) {
    int x = (31 * minute + 17 * tower + 7 * sign + seed) % 1009;
    return x < tiredness ? sign ^ 1 : sign;
  }

  private static void pass() {
    ArmtowerLine x = new ArmtowerLine();
    Checks.outOfRange("pass(0)", () -> x.pass(0));
    Checks.outOfRange("pass(-1)", () -> x.pass(-1));
    Checks.outOfRange("pass(201)", () -> x.pass(201));
    Checks.equal("minute() behind refused ones", x.minute(), 360);
    Checks.equal("pass(1)", x.pass(1), 361);
    Checks.equal("pass(200)", x.pass(200), 561);
    Checks.equal("minute()", x.minute(), 561);
    Checks.noSuch("a line without towers has none", () -> x.shows(0, true));
    ArmtowerLine one = Checks.plain(1);
    Checks.equal("pass with one tower", one.pass(3), 363);
    Checks.equal("one tower shows nothing up", one.shows(0, true), -1);
    Checks.equal("one tower shows nothing down", one.shows(0, false), -1);
  }

  private static void hours() {
    ArmtowerLine x = Checks.plain(3);
    Checks.noSuch("sees(2)", () -> x.sees(2) ? 1 : 0);
    Checks.noSuch("sees(-1)", () -> x.sees(-1) ? 1 : 0);
    Checks.equal("at dawn", x.sees(1), true);
    passTo(x, 1079);
    Checks.equal("the last minute of the day", x.sees(1), true);
    x.pass(1);
    Checks.equal("the first minute of the night", x.sees(1), false);
    x.mark(0, true, false);
    passTo(x, 1440);
    Checks.equal("midnight", x.sees(1), false);
    passTo(x, DAWN_AFTER - 1);
    Checks.equal("the last minute of the night", x.sees(1), false);
    Checks.equal("shown all night", x.shows(0, true), 95);
    Checks.equal("not taken by night", x.logs(1, true), 0);
    x.pass(1);
    Checks.equal("the first minute of the next day", x.sees(1), true);
    Checks.entry("taken at dawn", x, 1, true, 0, DAWN_AFTER, 95, 0);
    Checks.equal("taken, hence no longer shown", x.shows(0, true), -1);
    Checks.equal("shown by the next one", x.shows(1, true), 95);
  }

  private static void passTo(ArmtowerLine x, int minute) {
    while (x.minute() < minute) {
      x.pass(Math.min(200, minute - x.minute()));
    }
  }
}
