/** Promises 22 to 25: what comes at the ends. */
public final class TapeTest {
  public static void main(String[] args) {
    bothWays();
    refused();
    phrases();
    interrupted();
    waitBehindUrgent();
    markBetween();
    error();
    lostSigns();
    errorAheadOfUrgent();
    forty();
    Checks.finish("TapeTest");
  }

  private static void bothWays() {
    ArmtowerLine x = Checks.withText(3, 1);
    x.send(false, 0, false);
    x.pass(2);
    x.type(7);
    x.send(true, 0, true);
    x.pass(1);
    Checks.equal("BEGIN came up", x.open(true), 1);
    Checks.equal("nothing came down", x.open(false), 0);
    Checks.equal("not yet", x.came(true), 0);
    x.pass(20);
    Checks.equal("came up", x.came(true), 1);
    Checks.equal("came down", x.came(false), 1);
    Checks.equal("none is open up", x.open(true), 0);
    Checks.equal("none is open down", x.open(false), 0);
    Checks.told("up", x, true, 0, 366, 363, 1, 0);
    Checks.told("down", x, false, 0, 371, 366, 2, 1);
  }

  private static void refused() {
    ArmtowerLine x = Checks.withText(2, 1);
    Checks.noSuch("told without dispatches", () -> x.told(true, 0, 0));
    Checks.noSuch("phrase without dispatches", () -> x.phrase(true, 0, 0, 0));
    x.send(false, 0, false);
    x.pass(4);
    Checks.noSuch("an open one did not come", () -> x.told(true, 0, 0));
    x.pass(1);
    Checks.equal("told(true, 0, 0)", x.told(true, 0, 0), 365);
    Checks.noSuch("told(true, 1, 0)", () -> x.told(true, 1, 0));
    Checks.noSuch("told(true, -1, 0)", () -> x.told(true, -1, 0));
    Checks.noSuch("told(false, 0, 0)", () -> x.told(false, 0, 0));
    Checks.noSuch("told(true, 1, 4)", () -> x.told(true, 1, 4));
    Checks.outOfRange("told(true, 0, 4)", () -> x.told(true, 0, 4));
    Checks.outOfRange("told(true, 0, -1)", () -> x.told(true, 0, -1));
    Checks.noSuch("phrase of no dispatch", () -> x.phrase(true, 1, 0, 0));
    Checks.noSuch("phrase of the other way", () -> x.phrase(false, 0, 0, 0));
    Checks.noSuch("phrase of the dispatch -1", () -> x.phrase(true, -1, 0, 0));
    Checks.noSuch("phrase by no book", () -> x.phrase(true, 0, 0, 3));
    Checks.noSuch("phrase by the book -1", () -> x.phrase(true, 0, 0, -1));
    Checks.noSuch("phrase at no place", () -> x.phrase(true, 0, 1, 0));
    Checks.noSuch("phrase at the place -1", () -> x.phrase(true, 0, -1, 0));
    Checks.noSuch("phrase at a place far off", () -> x.phrase(true, 0, Integer.MAX_VALUE, 0));
  }

  private static void phrases() {
    ArmtowerLine x = Checks.plain(2);
    x.write(0, 91, 0, 5);
    x.write(0, 0, 91, 6);
    x.write(2, 0, 91, 9999);
    x.type(5);
    x.type(6);
    x.send(false, 0, false);
    x.pass(10);
    Checks.equal("the first place", x.phrase(true, 0, 0, 0), 5);
    Checks.equal("the second place", x.phrase(true, 0, 1, 0), 6);
    Checks.equal("another book", x.phrase(true, 0, 1, 2), 9999);
    Checks.equal("nothing there", x.phrase(true, 0, 0, 2), -1);
    Checks.equal("an empty book", x.phrase(true, 0, 0, 1), -1);
    x.write(0, 91, 0, 8);
    Checks.equal("a book is looked up as it is now", x.phrase(true, 0, 0, 0), 8);
  }

  private static void interrupted() {
    ArmtowerLine x = Checks.withText(2, 2);
    x.send(false, 0, false);
    x.pass(4);
    x.clear();
    x.type(7);
    x.send(false, 0, true);
    x.send(false, 0, true);
    x.pass(3);
    Checks.equal("one interrupts the other", x.open(true), 2);
    Checks.equal("none came yet", x.came(true), 0);
    x.pass(3);
    Checks.equal("the urgent one came", x.came(true), 1);
    Checks.equal("the other is open still", x.open(true), 1);
    x.pass(20);
    Checks.equal("all came", x.came(true), 3);
    // Shown: 361..364 92 1 2 1; 365..369 and 370..374 the urgent ones; 375, 376 2 93.
    Checks.told("the first urgent one", x, true, 0, 370, 367, 1, 1);
    Checks.told("the second urgent one", x, true, 1, 375, 372, 1, 1);
    Checks.told("the interrupted one", x, true, 2, 377, 362, 2, 0);
    Checks.equal("its first phrase", x.phrase(true, 2, 0, 0), 7);
    Checks.equal("its second phrase, cut by the urgent ones", x.phrase(true, 2, 1, 0), 7);
    Checks.equal("none is open", x.open(true), 0);
  }

  /** A WAIT that the tower 1 puts between URGENT and BEGIN. */
  private static void waitBehindUrgent() {
    ArmtowerLine x = Checks.withText(3, 1);
    x.send(false, 0, true);
    x.pass(2);
    Checks.equal("URGENT is shown", x.shows(1, true), 96);
    x.mark(1, true, false);
    x.pass(20);
    Checks.equal("it came", x.came(true), 1);
    Checks.equal("but is not urgent", x.told(true, 0, 3), 0);
    // The same within another one: as neither is urgent, the one that is open is dropped.
    ArmtowerLine y = Checks.withText(3, 2);
    y.send(false, 0, false);
    y.pass(3);
    y.send(false, 0, true);
    y.pass(2);
    Checks.equal("URGENT is shown", y.shows(1, true), 96);
    y.mark(1, true, false);
    y.pass(1);
    Checks.equal("the first one is open", y.open(true), 1);
    y.pass(2);
    Checks.equal("one is open", y.open(true), 1);
    y.pass(20);
    Checks.equal("the one that was begun first was dropped", y.came(true), 1);
    Checks.equal("the other one is not urgent", y.told(true, 0, 3), 0);
    Checks.equal("none is open", y.open(true), 0);
  }

  /** A mark in a dispatch does nothing if it is WAIT; an urgent one stays urgent with marks elsewhere. */
  private static void markBetween() {
    ArmtowerLine x = Checks.withText(3, 1);
    x.send(false, 0, true);
    x.pass(1);
    x.mark(1, true, false);
    x.pass(3);
    x.mark(1, true, false);
    x.pass(20);
    Checks.equal("it came", x.came(true), 1);
    Checks.equal("it is urgent", x.told(true, 0, 3), 1);
    Checks.equal("it has its phrase", x.phrase(true, 0, 0, 0), 7);
    Checks.equal("the marks came, too", x.logs(2, true), 7);
  }

  private static void error() {
    ArmtowerLine x = Checks.withText(3, 2);
    x.send(false, 0, false);
    x.pass(4);
    x.send(false, 0, true);
    x.pass(5);
    Checks.equal("two are open", x.open(true), 2);
    x.mark(1, true, true);
    x.pass(2);
    Checks.equal("ERROR drops all", x.open(true), 0);
    x.pass(20);
    Checks.equal("what is left comes to nothing", x.came(true), 0);
    Checks.equal("END without an open one does nothing", x.open(true), 0);
    x.send(false, 0, false);
    x.pass(20);
    Checks.equal("the next one comes", x.came(true), 1);
    Checks.equal("with its own signs alone", x.told(true, 0, 2), 2);
    Checks.equal("the first of them", x.phrase(true, 0, 0, 0), 7);
  }

  /** Signs that are lost, as an ERROR dropped what they belonged to, leave the next dispatch as it is. */
  private static void lostSigns() {
    ArmtowerLine x = Checks.withText(3, 1);
    x.send(false, 0, false);
    x.send(false, 0, false);
    x.pass(2);
    Checks.equal("BEGIN is shown", x.shows(1, true), 92);
    x.mark(1, true, true);
    x.pass(20);
    // 92, 94, and then 1 2 93 belong to none.
    Checks.equal("one came", x.came(true), 1);
    Checks.told("the second one", x, true, 0, 371, 368, 1, 0);
    Checks.noSuch("one place alone", () -> x.phrase(true, 0, 1, 0));
  }

  /** Down the line: an ERROR drops the dispatch that is cut, and an urgent one behind the ERROR comes. */
  private static void errorAheadOfUrgent() {
    ArmtowerLine x = Checks.withText(3, 3);
    x.send(true, 0, false);
    x.pass(4);
    x.mark(1, false, true);
    x.mark(2, false, false);
    x.send(true, 0, true);
    x.pass(40);
    Checks.equal("the urgent one came", x.came(false), 1);
    Checks.equal("urgent", x.told(false, 0, 3), 1);
    Checks.equal("3 spots", x.told(false, 0, 2), 3);
    Checks.equal("none is open", x.open(false), 0);
    Checks.equal("nothing came up", x.came(true), 0);
  }

  private static void forty() {
    ArmtowerLine x = Checks.withText(2, 1);
    for (int i = 0; i < 42; i++) {
      x.send(false, 0, i == 41);
      x.pass(6);
      Checks.equal("dispatches behind " + i, x.came(true), Math.min(40, i + 1));
      Checks.equal("open behind " + i, x.open(true), 0);
    }
    Checks.told("the 40th", x, true, 39, 365 + 6 * 39, 362 + 6 * 39, 1, 0);
    Checks.noSuch("no 41st", () -> x.told(true, 40, 0));
    Checks.noSuch("no phrase of a 41st", () -> x.phrase(true, 40, 0, 0));
    x.send(true, 0, false);
    x.pass(6);
    Checks.equal("the other way counts for itself", x.came(false), 1);
  }
}
