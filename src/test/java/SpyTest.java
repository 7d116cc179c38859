/** Promises 12, 26 and 27: spies. */
public final class SpyTest {
  public static void main(String[] args) {
    spy();
    seen();
    shownAhead();
    night();
    acrossTheNight();
    fog();
    twoHundred();
    tries();
    Checks.finish("SpyTest");
  }

  private static void spy() {
    ArmtowerLine x = Checks.plain(3);
    Checks.noSuch("spy(3)", () -> x.spy(3));
    Checks.noSuch("spy(-1)", () -> x.spy(-1));
    Checks.notNow("spy at the last one", () -> x.spy(2));
    Checks.noSuch("no spy came", () -> x.seen(0));
    for (int i = 0; i < 6; i++) {
      Checks.equal("spy " + i, x.spy(i % 2), i);
    }
    Checks.notNow("spy 6", () -> x.spy(0));
    Checks.noSuch("spy 6 at no tower", () -> x.spy(3));
    Checks.equal("seen(5)", x.seen(5), 0);
    Checks.noSuch("seen(6)", () -> x.seen(6));
    Checks.noSuch("seen(-1)", () -> x.seen(-1));
    Checks.noSuch("tries(6, 0)", () -> x.tries(6, 0));
    Checks.noSuch("tries(-1, 0)", () -> x.tries(-1, 0));
    Checks.noSuch("tries(0, 3)", () -> x.tries(0, 3));
    Checks.noSuch("tries(0, -1)", () -> x.tries(0, -1));
    Checks.equal("tries(0, 0)", x.tries(0, 0), 0);
    ArmtowerLine one = Checks.plain(1);
    Checks.notNow("spy at one tower", () -> one.spy(0));
    ArmtowerLine none = new ArmtowerLine();
    Checks.noSuch("spy without towers", () -> none.spy(0));
  }

  private static void seen() {
    ArmtowerLine x = Checks.withText(3, 2);
    x.spy(0);
    x.spy(1);
    x.send(false, 0, true);
    x.send(true, 0, false);
    x.mark(0, true, false);
    int[][] due = {{0, 0}, {0, 0}, {1, 0}, {2, 1}, {3, 2}, {4, 3}, {4, 4}, {4, 4}};
    for (int i = 0; i < due.length; i++) {
      x.pass(1);
      Checks.equal("seen(0) at " + x.minute(), x.seen(0), due[i][0]);
      Checks.equal("seen(1) at " + x.minute(), x.seen(1), due[i][1]);
    }
    x.pass(20);
    Checks.equal("marks and the way down are not seen", x.seen(1), 4);
  }

  private static void shownAhead() {
    ArmtowerLine x = Checks.withText(3, 1);
    x.send(false, 0, false);
    x.pass(2);
    Checks.equal("1 is shown", x.shows(0, true), 1);
    x.spy(0);
    x.air(0, 2);
    x.pass(3);
    Checks.equal("it is not newly shown", x.seen(0), 0);
    x.air(0, 0);
    x.pass(1);
    Checks.equal("the next one is", x.seen(0), 1);
    x.pass(10);
    Checks.equal("and is seen once", x.seen(0), 1);
    // A sign like the one ahead is newly shown all the same.
    ArmtowerLine y = Checks.plain(2);
    y.write(0, 3, 3, 4);
    y.type(4);
    y.type(4);
    y.spy(0);
    y.send(false, 0, false);
    y.pass(10);
    Checks.equal("four alike", y.seen(0), 4);
  }

  private static void night() {
    ArmtowerLine x = Checks.withText(2, 2);
    x.spy(0);
    for (int i = 0; i < 3; i++) {
      x.pass(200);
    }
    x.pass(116);
    x.send(false, 0, false);
    x.pass(3);
    Checks.equal("minute()", x.minute(), 1079);
    Checks.equal("seen by the last light", x.seen(0), 2);
    x.pass(1);
    Checks.equal("still shown by night", x.shows(0, true), 2);
    Checks.equal("shown since the day", x.seen(0), 2);
    for (int i = 0; i < 4; i++) {
      x.pass(180);
    }
    Checks.equal("dawn", x.minute(), 1800);
    Checks.equal("newly shown at dawn", x.seen(0), 3);
    // By night nothing is taken, hence what is newly shown then is a mark: BEGIN here, and the rest by day.
    ArmtowerLine y = Checks.withText(2, 1);
    for (int i = 0; i < 4; i++) {
      y.pass(190);
    }
    y.spy(0);
    y.send(false, 0, false);
    y.pass(1);
    Checks.equal("BEGIN is shown by night", y.shows(0, true), 92);
    Checks.equal("a mark is not seen", y.seen(0), 0);
    for (int i = 0; i < 4; i++) {
      y.pass(180);
    }
    Checks.equal("both signs are seen by day", y.seen(0), 2);
  }

  /** The tower 1 shows a 1 from the last minute of the day on; behind it the 2 that it shows at dawn is seen. */
  private static void acrossTheNight() {
    ArmtowerLine x = Checks.withText(3, 1);
    for (int i = 0; i < 4; i++) {
      x.pass(179);
    }
    Checks.equal("minute()", x.minute(), 1076);
    x.spy(0);
    x.spy(1);
    x.send(false, 0, false);
    x.pass(3);
    Checks.equal("tower 0 shows", x.shows(0, true), 2);
    Checks.equal("tower 1 shows", x.shows(1, true), 1);
    Checks.equal("tower 0 seen", x.seen(0), 2);
    Checks.equal("tower 1 seen", x.seen(1), 1);
    for (int i = 0; i < 4; i++) {
      x.pass(180);
    }
    Checks.equal("all night the same", x.seen(1), 1);
    x.pass(1);
    Checks.equal("by day the next one", x.seen(1), 2);
  }

  private static void fog() {
    ArmtowerLine x = Checks.withText(3, 2);
    x.spy(0);
    x.spy(1);
    x.air(1, 2);
    x.send(false, 0, false);
    x.pass(10);
    Checks.equal("the fog lies ahead of the tower 1", x.seen(0), 4);
    Checks.equal("it shows nothing but BEGIN", x.seen(1), 0);
    x.air(1, 1);
    x.pass(2);
    Checks.equal("haze hides nothing", x.seen(1), 2);
    x.air(1, 2);
    x.pass(5);
    x.air(1, 0);
    x.pass(10);
    Checks.equal("the rest is seen", x.seen(1), 4);
    // The 1 comes to the tower 1 when fog lies ahead of that, which shows nothing else: it is never seen.
    ArmtowerLine y = Checks.withText(3, 1);
    y.spy(0);
    y.spy(1);
    y.send(false, 0, false);
    y.pass(2);
    y.air(0, 2);
    y.pass(2);
    Checks.equal("the tower 1 shows nothing", y.shows(1, true), -1);
    y.air(0, 0);
    y.air(1, 2);
    y.pass(1);
    Checks.equal("the tower 1 shows a 1", y.shows(1, true), 1);
    y.air(1, 0);
    y.pass(10);
    Checks.equal("both seen at the tower 0", y.seen(0), 2);
    Checks.equal("the 2 alone at the tower 1", y.seen(1), 1);
    // Hills and haze that stop the next tower's sight do not stop the spy's.
    ArmtowerLine z = new ArmtowerLine();
    z.tower(50, 1);
    z.tower(50, 11);
    z.write(0, 1, 2, 7);
    z.type(7);
    z.spy(0);
    z.send(false, 0, false);
    z.pass(2);
    z.air(0, 1);
    Checks.equal("haze on a long stretch", z.sees(0), false);
    z.pass(1);
    Checks.equal("the first sign was seen", z.seen(0), 1);
  }

  private static void twoHundred() {
    ArmtowerLine x = Checks.withText(2, 12);
    x.spy(0);
    x.spy(0);
    for (int i = 0; i < 8; i++) {
      x.send(false, 0, false);
      x.pass(30);
    }
    Checks.equal("8 times 24", x.seen(0), 192);
    x.spy(0);
    x.send(false, 0, false);
    x.pass(30);
    Checks.equal("the first 200", x.seen(0), 200);
    Checks.equal("of each spy", x.seen(1), 200);
    Checks.equal("from the call on", x.seen(2), 24);
    Checks.equal("100 pairs", x.tries(0, 0), 100);
    Checks.equal("12 pairs", x.tries(2, 0), 12);
  }

  private static void tries() {
    ArmtowerLine x = Checks.plain(2);
    x.write(0, 1, 2, 7);
    x.write(0, 91, 0, 8);
    x.write(1, 1, 2, 0);
    x.write(2, 2, 91, 5);
    x.type(7);
    x.type(8);
    x.type(7);
    x.spy(0);
    x.send(false, 0, false);
    x.pass(4);
    Checks.equal("1 2 91 are seen", x.seen(0), 3);
    Checks.equal("one alone is lost", x.tries(0, 0), 1);
    x.spy(0);
    x.pass(10);
    Checks.equal("book 0", x.tries(0, 0), 3);
    Checks.equal("book 1", x.tries(0, 1), 2);
    Checks.equal("book 2", x.tries(0, 2), 0);
    Checks.equal("a late spy pairs otherwise: 0 1 and a 2", x.tries(1, 0), 0);
    x.write(0, 0, 1, 3);
    Checks.equal("but the book may have it", x.tries(1, 0), 1);
    x.write(0, 1, 2, -1);
    Checks.equal("tried as the book is now", x.tries(0, 0), 1);
  }
}
