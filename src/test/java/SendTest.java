/** Promises 7 to 11 and 17 to 21: books, the text, dispatches and marks, and what towers show, keep and log. */
public final class SendTest {
  public static void main(String[] args) {
    write();
    writeFull();
    type();
    send();
    sendLowestSpot();
    sendRefused();
    sendFull();
    urgent();
    mark();
    markFull();
    shows();
    keeps();
    tenKept();
    log();
    logFull();
    differs();
    Checks.finish("SendTest");
  }

  private static void write() {
    ArmtowerLine x = new ArmtowerLine();
    Checks.noSuch("write(3, ..)", () -> x.write(3, 0, 0, 0));
    Checks.noSuch("write(-1, ..), all wrong", () -> x.write(-1, 92, 92, 10000));
    int[][] wrong = {{92, 0, 0}, {-1, 0, 0}, {0, 92, 0}, {0, -1, 0}, {0, 0, 10000}, {0, 0, -2}};
    for (int[] w : wrong) {
      Checks.outOfRange("write(0, " + w[0] + ", " + w[1] + ", " + w[2] + ")", () -> x.write(0, w[0], w[1], w[2]));
    }
    Checks.equal("nothing at a spot", x.write(0, 91, 0, -1), -1);
    Checks.equal("the first phrase", x.write(0, 91, 0, 9999), -1);
    Checks.equal("another one there", x.write(0, 91, 0, 0), 9999);
    Checks.equal("page and line are not alike", x.write(0, 0, 91, 4), -1);
    Checks.equal("the next line", x.write(0, 1, 0, 5), -1);
    Checks.equal("another book", x.write(1, 91, 0, 3), -1);
    Checks.equal("the last book", x.write(2, 91, 0, 2), -1);
    Checks.equal("the phrase is off", x.write(0, 91, 0, -1), 0);
    Checks.equal("and stays off", x.write(0, 91, 0, -1), -1);
    Checks.equal("the others stay, 1", x.write(0, 0, 91, -1), 4);
    Checks.equal("the others stay, 2", x.write(0, 1, 0, -1), 5);
    Checks.equal("the others stay, 3", x.write(1, 91, 0, -1), 3);
    Checks.equal("the others stay, 4", x.write(2, 91, 0, -1), 2);
  }

  private static void writeFull() {
    ArmtowerLine x = new ArmtowerLine();
    for (int i = 0; i < 200; i++) {
      Checks.equal("spot " + i, x.write(0, i / 92, i % 92, i), -1);
    }
    Checks.notNow("the 201st spot", () -> x.write(0, 91, 91, 5));
    Checks.outOfRange("the 201st spot, a wrong phrase", () -> x.write(0, 91, 91, 10000));
    Checks.noSuch("the 201st spot, no book", () -> x.write(3, 91, 91, 5));
    Checks.equal("nothing at no spot", x.write(0, 91, 91, -1), -1);
    Checks.equal("another phrase at a spot", x.write(0, 1, 7, 7000), 99);
    Checks.equal("another book has room", x.write(1, 91, 91, 5), -1);
    Checks.equal("a spot less", x.write(0, 0, 0, -1), 0);
    Checks.equal("a spot more", x.write(0, 91, 91, 6), -1);
    Checks.notNow("full again", () -> x.write(0, 0, 0, 5));
    Checks.equal("the last spot stays", x.write(0, 2, 15, -1), 199);
    Checks.equal("the changed spot stays", x.write(0, 1, 7, -1), 7000);
    Checks.equal("the new spot stays", x.write(0, 91, 91, -1), 6);
  }

  private static void type() {
    ArmtowerLine x = new ArmtowerLine();
    Checks.outOfRange("type(-1)", () -> x.type(-1));
    Checks.outOfRange("type(10000)", () -> x.type(10000));
    for (int i = 1; i <= 12; i++) {
      Checks.equal("type " + i, x.type(i == 1 ? 0 : 9999), i);
    }
    Checks.notNow("type 13", () -> x.type(5));
    Checks.outOfRange("type 13, out of range", () -> x.type(-1));
    Checks.equal("clear()", x.clear(), 12);
    Checks.equal("clear() again", x.clear(), 0);
    Checks.equal("type behind clear", x.type(5), 1);
    Checks.equal("clear() of one", x.clear(), 1);
  }

  private static void send() {
    ArmtowerLine x = Checks.plain(3);
    x.write(1, 90, 91, 5);
    x.write(1, 0, 0, 6);
    x.type(5);
    x.type(6);
    x.type(5);
    Checks.equal("send up", x.send(false, 1, false), 8);
    Checks.keeps("sent up", x, 0, true, 92, 90, 91, 0, 0, 90, 91, 93);
    Checks.keeps("sent up, not down", x, 0, false);
    Checks.keeps("sent up, not from the last", x, 2, false);
    Checks.equal("send down", x.send(true, 1, false), 8);
    Checks.keeps("sent down", x, 2, false, 92, 90, 91, 0, 0, 90, 91, 93);
    Checks.keeps("sent down, not up", x, 2, true);
    Checks.equal("the text stays", x.clear(), 3);
    x.type(6);
    Checks.equal("send behind", x.send(false, 1, false), 12);
    Checks.keeps("sent behind", x, 0, true, 92, 90, 91, 0, 0, 90, 91, 93, 92, 0, 0, 93);
    Checks.equal("a dispatch is not logged where it is sent", x.logs(0, true), 0);
    Checks.equal("nothing is shown ahead of the minute", x.shows(0, true), -1);
  }

  private static void sendLowestSpot() {
    ArmtowerLine x = Checks.plain(2);
    x.write(0, 5, 1, 7);
    x.write(0, 3, 90, 7);
    x.write(0, 3, 80, 7);
    x.write(0, 4, 0, 7);
    x.write(0, 0, 0, 8);
    x.type(7);
    x.send(false, 0, false);
    Checks.keeps("the lowest spot", x, 0, true, 92, 3, 80, 93);
    x.write(0, 3, 80, 8);
    x.send(true, 0, false);
    Checks.keeps("the next lowest one", x, 1, false, 92, 3, 90, 93);
    x.write(0, 3, 90, -1);
    x.clear();
    x.type(7);
    x.type(8);
    x.send(true, 0, false);
    Checks.keeps("pages ahead of lines", x, 1, false, 92, 3, 90, 93, 92, 4, 0, 0, 0, 93);
  }

  private static void sendRefused() {
    ArmtowerLine none = new ArmtowerLine();
    Checks.noSuch("send by book 3", () -> none.send(false, 3, false));
    Checks.noSuch("send by book -1", () -> none.send(false, -1, false));
    none.write(0, 0, 0, 5);
    none.type(5);
    Checks.notNow("send without towers", () -> none.send(false, 0, false));
    none.tower(5, 5);
    Checks.notNow("send up with one tower", () -> none.send(false, 0, false));
    Checks.notNow("send down with one tower", () -> none.send(true, 0, false));
    Checks.keeps("refused with one tower", none, 0, true);
    none.tower(5, 5);
    none.clear();
    Checks.notNow("send no text", () -> none.send(false, 0, false));
    Checks.noSuch("send no text by no book", () -> none.send(false, 3, false));
    none.type(5);
    none.type(6);
    Checks.notNow("send what is not in the book", () -> none.send(false, 0, true));
    Checks.keeps("refused for the book", none, 0, true);
    none.write(1, 0, 1, 6);
    Checks.notNow("send what two books have", () -> none.send(false, 1, false));
    none.write(0, 1, 0, 6);
    Checks.equal("send what the book has", none.send(false, 0, false), 6);
  }

  private static void sendFull() {
    ArmtowerLine x = Checks.withText(2, 12);
    for (int i = 1; i <= 7; i++) {
      Checks.equal("send " + i, x.send(false, 0, i % 2 == 0), 26 * i + i / 2);
    }
    // 185 are kept now, and the text is 26 signs.
    Checks.notNow("send beyond 200", () -> x.send(false, 0, false));
    Checks.notNow("send an urgent one beyond 200", () -> x.send(false, 0, true));
    Checks.equal("the last sign kept", x.keeps(0, true, 184), 93);
    Checks.equal("no sign behind it", x.keeps(0, true, 185), -1);
    Checks.equal("the other way has room", x.send(true, 0, true), 27);
    x.clear();
    for (int i = 0; i < 6; i++) {
      x.type(7);
    }
    Checks.equal("an urgent one of 15 signs, up to 200", x.send(false, 0, true), 200);
    Checks.notNow("send one more", () -> x.send(false, 0, false));
    Checks.notNow("mark beyond 200", () -> x.mark(0, true, true));
    Checks.equal("the 200th sign", x.keeps(0, true, 199), 93);
    Checks.equal("the 201st sign", x.keeps(0, true, 200), -1);
    x.pass(1);
    Checks.equal("one is shown, one more has room", x.mark(0, true, true), 200);
    Checks.notNow("no more have", () -> x.mark(0, true, true));
  }

  private static void urgent() {
    ArmtowerLine x = Checks.withText(3, 1);
    x.mark(0, true, false);
    x.send(false, 0, false);
    Checks.equal("urgent", x.send(false, 0, true), 10);
    Checks.keeps("ahead of all, marks with it", x, 0, true, 96, 92, 1, 2, 93, 95, 92, 1, 2, 93);
    x.write(0, 1, 2, 8);
    x.write(0, 0, 9, 7);
    Checks.equal("urgent behind urgent", x.send(false, 0, true), 15);
    Checks.keeps("behind other urgent ones", x, 0, true, 96, 92, 1, 2, 93, 96, 92, 0, 9, 93, 95, 92, 1, 2, 93);
    x.pass(7);
    Checks.keeps("7 shown", x, 0, true, 0, 9, 93, 95, 92, 1, 2, 93);
    x.mark(0, true, true);
    x.send(false, 0, true);
    Checks.keeps("behind what is left", x, 0, true,
        0, 9, 93, 96, 92, 0, 9, 93, 95, 92, 1, 2, 93, 94);
    x.pass(9);
    Checks.keeps("only others left", x, 0, true, 92, 1, 2, 93, 94);
    x.send(false, 0, true);
    Checks.keeps("ahead of all that is left", x, 0, true, 96, 92, 0, 9, 93, 92, 1, 2, 93, 94);
    ArmtowerLine down = Checks.withText(3, 1);
    down.send(true, 0, false);
    down.pass(2);
    down.send(true, 0, true);
    Checks.keeps("down, too", down, 2, false, 96, 92, 1, 2, 93, 2, 93);
    Checks.keeps("the other way is left alone", down, 0, true);
  }

  private static void mark() {
    ArmtowerLine x = Checks.withText(3, 1);
    Checks.noSuch("mark(3, ..)", () -> x.mark(3, true, true));
    Checks.noSuch("mark(-1, ..)", () -> x.mark(-1, true, true));
    Checks.notNow("mark at the end up", () -> x.mark(2, true, true));
    Checks.notNow("mark at the end down", () -> x.mark(0, false, false));
    Checks.equal("a refused mark is not logged", x.logs(2, true), 0);
    Checks.equal("ERROR", x.mark(1, true, true), 1);
    Checks.equal("WAIT", x.mark(1, true, false), 2);
    Checks.keeps("marks", x, 1, true, 94, 95);
    Checks.keeps("marks, not down", x, 1, false);
    Checks.entry("ERROR", x, 1, true, 0, 360, 94, 1);
    Checks.entry("WAIT", x, 1, true, 1, 360, 95, 1);
    Checks.equal("marks, not in the other log", x.logs(1, false), 0);
    x.send(true, 0, false);
    Checks.equal("behind what is kept", x.mark(2, false, true), 5);
    Checks.keeps("behind a dispatch", x, 2, false, 92, 1, 2, 93, 94);
    x.pass(4);
    Checks.entry("a mark is read as others are", x, 2, true, 1, 363, 95, 0);
    x.mark(1, true, true);
    Checks.entry("the minute of a mark", x, 1, true, 2, 364, 94, 1);
    ArmtowerLine one = Checks.plain(1);
    Checks.notNow("one tower is the end up", () -> one.mark(0, true, true));
    Checks.notNow("one tower is the end down", () -> one.mark(0, false, true));
  }

  private static void markFull() {
    ArmtowerLine x = Checks.plain(3);
    for (int i = 1; i <= 200; i++) {
      Checks.equal("mark " + i, x.mark(1, false, i % 2 == 0), i);
    }
    Checks.notNow("mark 201", () -> x.mark(1, false, false));
    Checks.equal("a refused mark is not logged", x.logs(1, false), 200);
    Checks.equal("the 200th", x.keeps(1, false, 199), 94);
    Checks.equal("no 201st", x.keeps(1, false, 200), -1);
    Checks.equal("the other way has room", x.mark(1, true, true), 1);
  }

  private static void shows() {
    ArmtowerLine x = Checks.withText(3, 1);
    Checks.noSuch("shows(3)", () -> x.shows(3, true));
    Checks.noSuch("shows(-1)", () -> x.shows(-1, false));
    x.send(false, 0, false);
    x.send(true, 0, false);
    int[][] due = {
      {92, -1, -1, -1, -1, 92}, {1, 92, -1, -1, 92, 1}, {2, 1, -1, -1, 1, 2},
      {93, 2, -1, -1, 2, 93}, {-1, 93, -1, -1, 93, -1}, {-1, -1, -1, -1, -1, -1},
    };
    for (int i = 0; i < due.length; i++) {
      x.pass(1);
      for (int tower = 0; tower < 3; tower++) {
        Checks.equal("minute " + i + ": shows(" + tower + ", true)", x.shows(tower, true), due[i][tower]);
        Checks.equal("minute " + i + ": shows(" + tower + ", false)", x.shows(tower, false), due[i][3 + tower]);
      }
    }
    ArmtowerLine fog = Checks.withText(3, 1);
    fog.air(0, 2);
    fog.send(false, 0, false);
    fog.pass(50);
    Checks.equal("shown until it is taken", fog.shows(0, true), 92);
    Checks.keeps("the rest waits", fog, 0, true, 1, 2, 93);
    fog.air(0, 0);
    fog.pass(1);
    Checks.equal("taken at last", fog.shows(0, true), 1);
    Checks.equal("and shown on", fog.shows(1, true), 92);
  }

  private static void keeps() {
    ArmtowerLine x = Checks.withText(2, 1);
    Checks.noSuch("keeps(2, ..)", () -> x.keeps(2, true, 0));
    Checks.noSuch("keeps(-1, ..)", () -> x.keeps(-1, true, 0));
    Checks.noSuch("keeps(.., -1)", () -> x.keeps(0, true, -1));
    Checks.noSuch("keeps(.., least)", () -> x.keeps(0, true, Integer.MIN_VALUE));
    Checks.equal("keeps far behind", x.keeps(0, true, Integer.MAX_VALUE), -1);
    x.send(false, 0, false);
    Checks.equal("keeps(.., 3)", x.keeps(0, true, 3), 93);
    Checks.equal("keeps(.., 4)", x.keeps(0, true, 4), -1);
    Checks.equal("keeps(.., 199)", x.keeps(0, true, 199), -1);
    Checks.equal("keeps(.., 200)", x.keeps(0, true, 200), -1);
    x.pass(2);
    Checks.keeps("two shown", x, 0, true, 2, 93);
    Checks.keeps("the end keeps nothing", x, 1, true);
    Checks.equal("the end shows nothing", x.shows(1, true), -1);
  }

  private static void tenKept() {
    ArmtowerLine x = Checks.withText(3, 12);
    x.air(1, 2);
    x.send(false, 0, false);
    x.pass(30);
    Checks.equal("ten are kept, one is shown", x.logs(1, true), 11);
    Checks.keeps("ten", x, 1, true, 1, 2, 1, 2, 1, 2, 1, 2, 1, 2);
    Checks.equal("the eleventh waits", x.shows(0, true), 1);
    x.mark(1, true, false);
    x.air(1, 0);
    x.pass(1);
    Checks.equal("eleven were kept: none taken", x.logs(1, true), 12);
    Checks.keeps("one less", x, 1, true, 2, 1, 2, 1, 2, 1, 2, 1, 2, 95);
    x.pass(1);
    Checks.equal("ten were kept: none taken", x.logs(1, true), 12);
    x.pass(1);
    Checks.equal("nine were kept: one taken", x.logs(1, true), 13);
    Checks.keeps("and kept behind the mark", x, 1, true, 2, 1, 2, 1, 2, 1, 2, 95, 1);
    // The end takes however many came.
    x.pass(60);
    Checks.equal("all came", x.came(true), 1);
    Checks.equal("all spots came", x.told(true, 0, 2), 12);
  }

  private static void log() {
    ArmtowerLine x = Checks.withText(3, 1);
    Checks.noSuch("logs(3)", () -> x.logs(3, true));
    Checks.noSuch("logs(-1)", () -> x.logs(-1, true));
    Checks.noSuch("log(3, ..)", () -> x.log(3, true, 0, 0));
    Checks.noSuch("log(-1, ..), all wrong", () -> x.log(-1, true, -1, 3));
    Checks.noSuch("log(.., -1, 0)", () -> x.log(0, true, -1, 0));
    Checks.noSuch("log(.., -1, 3)", () -> x.log(0, true, -1, 3));
    Checks.outOfRange("log(.., 3)", () -> x.log(0, true, 0, 3));
    Checks.outOfRange("log(.., -1)", () -> x.log(0, true, 0, -1));
    Checks.equal("no entry", x.log(0, true, 0, 0), -1);
    Checks.equal("no entry by far", x.log(0, true, Integer.MAX_VALUE, 2), -1);
    x.send(false, 0, false);
    x.mark(2, false, true);
    x.pass(10);
    int[] signs = {92, 1, 2, 93};
    for (int i = 0; i < 4; i++) {
      Checks.entry("tower 1", x, 1, true, i, 362 + i, signs[i], 0);
      Checks.entry("the end", x, 2, true, i, 363 + i, signs[i], 0);
    }
    Checks.equal("logs(1, true)", x.logs(1, true), 4);
    Checks.equal("logs(2, true)", x.logs(2, true), 4);
    Checks.equal("logs(1, false)", x.logs(1, false), 1);
    Checks.equal("logs(0, false)", x.logs(0, false), 1);
    Checks.entry("the mark, as put", x, 2, false, 0, 360, 94, 1);
    Checks.entry("the mark, as read", x, 0, false, 0, 363, 94, 0);
    Checks.equal("no fifth entry", x.log(1, true, 4, 1), -1);
  }

  private static void logFull() {
    ArmtowerLine x = Checks.withText(3, 12);
    for (int round = 0; round < 2; round++) {
      for (int i = 0; i < 6; i++) {
        x.send(false, 0, false);
      }
      x.pass(160);
    }
    Checks.equal("312 came, 300 are logged", x.logs(1, true), 300);
    Checks.equal("at the end, too", x.logs(2, true), 300);
    Checks.equal("but all came on the tape", x.came(true), 12);
    // 299 is 11 dispatches of 26 signs and 13 more: the 14th sign of the 12th one is the page of a spot.
    Checks.equal("the last entry", x.log(1, true, 299, 1), 1);
    Checks.equal("the last entry at the end", x.log(2, true, 299, 1), 1);
    Checks.equal("the last entry but one", x.log(1, true, 298, 1), 2);
    Checks.equal("no entry behind", x.log(1, true, 300, 1), -1);
    Checks.equal("two full logs that are alike", x.differs(1, 2, true), -1);
    x.pass(200);
    Checks.equal("a mark behind a full log", x.mark(1, true, true), 1);
    Checks.equal("is not logged", x.logs(1, true), 300);
    Checks.equal("the first entry stays", x.log(1, true, 0, 0), 362);
  }

  private static void differs() {
    ArmtowerLine x = Checks.withText(4, 2);
    Checks.noSuch("differs(4, 0)", () -> x.differs(4, 0, true));
    Checks.noSuch("differs(0, 4)", () -> x.differs(0, 4, true));
    Checks.noSuch("differs(-1, 0)", () -> x.differs(-1, 0, true));
    Checks.noSuch("differs(0, -1)", () -> x.differs(0, -1, true));
    Checks.equal("empty logs", x.differs(1, 2, true), -1);
    x.mark(2, true, false);
    x.mark(1, false, true);
    x.send(false, 0, false);
    x.pass(4);
    x.mark(1, true, true);
    x.tire(2, 1009);
    x.pass(20);
    // The tower 1: 92 1 2 (own 94) 1 2 93; the tower 2: (own 95) 92 1, and tired from the 2 on.
    Checks.equal("own ones left out", x.differs(1, 2, true), 2);
    Checks.equal("the other way round", x.differs(2, 1, true), 2);
    Checks.equal("with itself", x.differs(1, 1, true), -1);
    Checks.equal("the end heard the WAIT first", x.differs(2, 3, true), 0);
    Checks.equal("one log is empty", x.differs(0, 1, true), -1);
    Checks.equal("only own ones in one", x.differs(0, 1, false), -1);
    ArmtowerLine part = Checks.withText(3, 1);
    part.send(false, 0, false);
    part.pass(4);
    Checks.equal("one log is shorter", part.differs(1, 2, true), -1);
    part.tire(2, 1009);
    part.pass(5);
    Checks.equal("the last place that both have", part.differs(1, 2, true), 2);
  }
}
