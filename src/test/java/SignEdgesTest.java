/**
 * DOC.md, Terms, "Signs": each sentence that names an edge, quoted at its test.
 *
 * No calls can tell in which order the towers look ("by rising numbers, each for the way up, then down"): what one of
 * them takes in a minute changes neither what another one may take, nor another log or tape. And none can put the
 * signs 97 to 99, which "are nothing": a book has 0 to 91 alone, and a misreading stays below 92.
 */
public final class SignEdgesTest {
  private static final String NOT_NOW = Story.NOT_NOW;
  private static final Story NEW = new Story("a new object");
  private static final int MOST_LOGGED = 300;

  public static void main(String[] args) {
    pagesAndLines();
    marksAreNotMisread();
    nothingAtItsEnd();
    shownOrNone();
    fewerThanTen();
    tenFromItsOwnDispatches();
    endTakesAll();
    takenOnce();
    readInThatMinute();
    belowTiredness();
    remainderTurnsOver();
    evenAndOdd();
    tiredAtFirst();
    behindAllThatItKeeps();
    ownAsItIsPut();
    firstThreeHundred();
    threeHundredthIsOwn();
    Checks.finish("SignEdgesTest");
  }

  private static Story level(int towers) {
    return NEW.on(towers + " towers").times(towers, "tower", 50, 5);
  }

  /** Two or more towers, the phrase 7 at a page and a line of book 0, and a text of one 7. */
  private static Story text(int towers, int page, int line) {
    return level(towers).then("write", 0, page, line, 7).then("type", 7);
  }

  /** "those below 92 count for pages and lines": 91 does, and comes as one. */
  private static void pagesAndLines() {
    for (int page = 0; page <= 91; page += 91) {
      for (int line = 0; line <= 91; line += 91) {
        Story story = text(3, page, line).then("send", false, 0, false).then("pass", 10);
        story.answers(1, "told", true, 0, 2).answers(7, "phrase", true, 0, 0, 0);
        story.answers(92, "log", 2, true, 0, 1).answers(page, "log", 2, true, 1, 1);
        story.answers(line, "log", 2, true, 2, 1).answers(93, "log", 2, true, 3, 1);
      }
    }
  }

  /** "if x is below the tower's tiredness .. and the sign is below 92": 91 is misread, 92 to 96 are not. */
  private static void marksAreNotMisread() {
    Story story = text(2, 91, 90).then("tire", 1, 1009).then("send", false, 0, true);
    story.then("mark", 0, true, true).then("mark", 0, true, false).then("pass", 20);
    int[] due = {96, 92, 90, 91, 93, 94, 95};
    for (int i = 0; i < due.length; i++) {
      story.answers(due[i], "log", 1, true, i, 1);
    }
    story.answers(due.length, "logs", 1, true).answers(1, "came", true).answers(1, "told", true, 0, 3);
  }

  /** "at its end it keeps and shows none": what comes there is on the tape and in the log alone. */
  private static void nothingAtItsEnd() {
    Story story = text(3, 1, 2).then("send", false, 0, false).then("send", true, 0, false);
    for (int minute = 0; minute < 8; minute++) {
      story.answers(-1, "shows", 2, true).answers(-1, "keeps", 2, true, 0);
      story.answers(-1, "shows", 0, false).answers(-1, "keeps", 0, false, 0).then("pass", 1);
    }
    story.answers(4, "logs", 2, true).answers(4, "logs", 0, false);
    level(1).then("pass", 1).answers(-1, "shows", 0, true).answers(-1, "keeps", 0, false, 0);
    level(1).refuses(NOT_NOW, "mark", 0, true, false);
    level(1).refuses(NOT_NOW, "mark", 0, false, false);
  }

  /** "if it shows none, or what it shows was taken, it shows the next one that it keeps, or none". */
  private static void shownOrNone() {
    Story story = level(3).then("mark", 0, true, true).answers(-1, "shows", 0, true).answers(94, "keeps", 0, true, 0);
    // It shows none, and then the one that it keeps.
    story.then("pass", 1).answers(94, "shows", 0, true).answers(-1, "keeps", 0, true, 0);
    // That was taken, and there is no next one; the tower 1 shows it in the minute in which it took it.
    story.then("pass", 1).answers(-1, "shows", 0, true).answers(94, "shows", 1, true).answers(-1, "keeps", 1, true, 0);
    story.then("mark", 0, true, false).then("pass", 1).answers(95, "shows", 0, true).answers(-1, "shows", 1, true);
    // What it shows was not taken: the next one waits.
    story.then("air", 0, 2).then("mark", 0, true, true).then("pass", 100).answers(95, "shows", 0, true);
    story.answers(94, "keeps", 0, true, 0).answers(-1, "keeps", 0, true, 1);
    story.then("air", 0, 0).then("pass", 1).answers(94, "shows", 0, true).answers(-1, "keeps", 0, true, 0);
  }

  /** "or keeps fewer than 10 for it, it takes that": with 9 it takes, with 10 or 11 it does not; both ways. */
  private static void fewerThanTen() {
    for (boolean up : new boolean[] {true, false}) {
      int from = up ? 0 : 2;
      for (int kept = 0; kept <= 11; kept++) {
        // One of the marks is shown in the first minute; fog lies ahead, so that the others stay.
        Story story = level(3).on("kept " + kept).then("air", up ? 1 : 0, 2).times(kept + 1, "mark", 1, up, false);
        story.then("mark", from, up, true).then("pass", 1).answers(94, "shows", from, up);
        story.answers(kept == 0 ? -1 : 95, "keeps", 1, up, Math.max(0, kept - 1)).answers(-1, "keeps", 1, up, kept);
        story.then("pass", 1).answers(kept < 10 ? -1 : 94, "shows", from, up);
        story.answers(kept < 10 ? 94 : -1, "keeps", 1, up, kept);
        story.answers(kept + (kept < 10 ? 2 : 1), "logs", 1, up);
      }
      // Ten for one way do not stand in the way of the other one.
      Story other = level(3).times(12, "mark", 1, up, false).then("mark", 2 - from, !up, true).then("pass", 1);
      other.answers(95, "keeps", 1, up, 10).then("pass", 1).answers(1, "logs", 1, !up).answers(94, "shows", 1, !up);
    }
  }

  /** The same with signs that came: the tower takes 11, of which it shows one, and then no more. */
  private static void tenFromItsOwnDispatches() {
    Story story = text(3, 1, 2).times(4, "send", false, 0, false).then("air", 1, 2).then("pass", 12);
    story.answers(11, "logs", 1, true).answers(2, "keeps", 1, true, 9).answers(-1, "keeps", 1, true, 10);
    story.then("pass", 50).answers(11, "logs", 1, true).answers(93, "shows", 0, true);
    // It looks ahead of showing: a place that is free in a minute is taken in the next one.
    story.then("air", 1, 0).then("pass", 1).answers(11, "logs", 1, true).answers(-1, "keeps", 1, true, 9);
    story.then("pass", 1).answers(12, "logs", 1, true).answers(93, "keeps", 1, true, 8);
  }

  /** "and it is the end of that way, or": however many came, the end takes a sign each minute. */
  private static void endTakesAll() {
    Story story = level(2).times(30, "mark", 0, true, false);
    for (int minute = 1; minute <= 31; minute++) {
      story.then("pass", 1).answers(minute - 1, "logs", 1, true);
    }
    story.then("pass", 9).answers(30, "logs", 1, true).answers(-1, "keeps", 1, true, 0);
  }

  /** "shows a sign, which was not taken yet": each sign is taken once, though two that are alike are two. */
  private static void takenOnce() {
    Story one = level(3).then("mark", 0, true, false).then("pass", 50);
    one.answers(1, "logs", 1, true).answers(1, "logs", 2, true);
    Story two = level(3).times(2, "mark", 0, true, false).then("pass", 50);
    two.answers(2, "logs", 1, true).answers(362, "log", 1, true, 0, 0).answers(363, "log", 1, true, 1, 0);
  }

  /** "31 times the minute", which "is 1 more" by then, "17 times the tower that reads": told by one tower's log. */
  private static void readInThatMinute() {
    for (int reader = 0; reader <= 2; reader += 2) {
      for (int wait = 0; wait < 40; wait++) {
        Story story = text(3, 4, 4).then("tire", reader, 500);
        story.until(360 + wait).then("send", reader == 0, 0, false).until(360 + wait + 6);
        int minute = 360 + wait + 4;
        int x = (31 * minute + 17 * reader + 7 * 4) % 1009;
        story.answers(minute, "log", reader, reader == 2, 1, 0);
        story.answers(x < 500 ? 5 : 4, "log", reader, reader == 2, 1, 1);
      }
    }
  }

  /** What the tower 1 of two reads of a page that the tower 0 shows: it is read at 363. */
  private static void page(int page, int seed, int tiredness, boolean isMisread) {
    Story story = text(2, page, 50).on("page " + page + ", seed " + seed + ", tired " + tiredness);
    story.then("seed", seed).then("tire", 1, tiredness).then("send", false, 0, false).then("pass", 3);
    int due = !isMisread ? page : page % 2 == 0 ? page + 1 : page - 1;
    story.answers(363, "log", 1, true, 1, 0).answers(due, "log", 1, true, 1, 1);
  }

  /** The seed, 0 to 1008, with which x has that remainder. */
  private static int seedFor(int page, int remainder) {
    return Math.floorMod(remainder - 31 * 363 - 17 - 7 * page, 1009);
  }

  /** "if x is below the tower's tiredness, 0 to 1009": x just below it, and as high as it. */
  private static void belowTiredness() {
    for (int page : new int[] {0, 1, 2, 45, 90, 91}) {
      for (int tiredness : new int[] {1, 2, 500, 1007, 1008}) {
        page(page, seedFor(page, tiredness - 1), tiredness, true);
        page(page, seedFor(page, tiredness), tiredness, false);
      }
      // Of 0 nothing is below, and all is below 1009.
      for (int x : new int[] {0, 1, 1007, 1008}) {
        page(page, seedFor(page, x), 0, false);
        page(page, seedFor(page, x), 1009, true);
      }
    }
  }

  /** "the remainder by 1009": behind 1008 comes 0; seeds above 1008 count by what is left of them. */
  private static void remainderTurnsOver() {
    for (int page : new int[] {0, 7, 91}) {
      int last = seedFor(page, 1008);
      page(page, last, 1008, false);
      page(page, last + 1, 1, true);
      page(page, last + 2, 1, false);
      page(page, last + 8 * 1009, 1008, false);
      page(page, last + 8 * 1009 + 1, 1, true);
    }
    page(3, 9999, 500, (31 * 363 + 17 + 7 * 3 + 9999) % 1009 < 500);
  }

  /** "it is read as 1 more, if it is even, and as 1 less, if it is odd": every sign below 92, 0 and 91 with them. */
  private static void evenAndOdd() {
    for (int page = 0; page <= 91; page++) {
      page(page, 0, 1009, true);
    }
    // Misread twice, it is as it was.
    Story story = text(4, 0, 91).then("tire", 1, 1009).then("tire", 2, 1009).then("send", false, 0, false);
    story.then("pass", 9).answers(1, "log", 1, true, 1, 1).answers(90, "log", 1, true, 2, 1);
    story.answers(0, "log", 2, true, 1, 1).answers(91, "log", 2, true, 2, 1).answers(7, "phrase", true, 0, 0, 0);
  }

  /** "tiredness, 0 to 1009, 0 at first", "the seed, 0 at first". */
  private static void tiredAtFirst() {
    level(12).answers(0, "tire", 0, 5).answers(0, "tire", 11, 5).answers(0, "seed", 5);
    for (int x = 0; x < 4; x++) {
      page(0, seedFor(0, x), 0, false);
    }
    Story story = text(12, 4, 4).then("send", false, 0, false).then("pass", 20);
    for (int tower = 1; tower < 12; tower++) {
      story.answers(4, "log", tower, true, 1, 1).answers(4, "log", tower, true, 2, 1);
    }
    story.then("tire", 3, 1009).answers(1009, "tire", 3, 1).then("seed", 9999).answers(9999, "seed", 0);
  }

  /** "behind all that it keeps for it": nothing, signs that came, a dispatch, marks, an urgent dispatch. */
  private static void behindAllThatItKeeps() {
    text(2, 1, 2).answers(1, "mark", 0, true, true).then("mark", 0, true, true).answers(94, "keeps", 0, true, 0);
    Story story = text(3, 1, 2).then("send", false, 0, false).then("send", false, 0, true).then("mark", 0, true, true);
    story.answers(93, "keeps", 0, true, 8).answers(94, "keeps", 0, true, 9).answers(-1, "keeps", 0, true, 10);
    story.then("mark", 0, true, false).answers(95, "keeps", 0, true, 10);
    Story came = text(3, 1, 2).then("air", 1, 2).then("send", false, 0, false).then("pass", 4);
    came.then("mark", 1, true, false).answers(2, "keeps", 1, true, 1).answers(95, "keeps", 1, true, 2);
    came.then("pass", 1).answers(93, "keeps", 1, true, 3).answers(-1, "keeps", 1, true, 4);
  }

  /** "that is in its log of the way as its own, as it is put": in that minute, which may be the first, or by night. */
  private static void ownAsItIsPut() {
    Story story = level(3).then("mark", 1, false, false);
    story.answers(1, "logs", 1, false).answers(0, "logs", 1, true).answers(360, "log", 1, false, 0, 0);
    story.answers(95, "log", 1, false, 0, 1).answers(1, "log", 1, false, 0, 2);
    story.until(1200).then("mark", 1, false, true).answers(1200, "log", 1, false, 1, 0);
    story.answers(94, "log", 1, false, 1, 1).answers(1, "log", 1, false, 1, 2).answers(-1, "log", 1, false, 2, 2);
    // Where it is taken it is not own.
    story.answers(0, "log", 0, false, 0, 2).answers(95, "log", 0, false, 0, 1).answers(1, "logs", 0, false);
  }

  /** "A log has the first 300 of a tower and a way": the 299th, the 300th, and no 301st. */
  private static void firstThreeHundred() {
    Story story = level(2).then("write", 0, 1, 2, 7).times(12, "type", 7);
    for (int i = 0; i < 11; i++) {
      story.then("send", false, 0, false).then("pass", 26);
    }
    // 11 times 26 signs, shown from 361 on: the last one is taken at 647, and 14 more fill the log.
    story.then("pass", 1).answers(286, "logs", 1, true).times(16, "mark", 0, true, false).then("pass", 14);
    story.answers(299, "logs", 1, true).answers(-1, "log", 1, true, 299, 1).then("pass", 1);
    story.answers(MOST_LOGGED, "logs", 1, true).answers(95, "log", 1, true, 299, 1)
        .answers(662, "log", 1, true, 299, 0);
    story.then("pass", 1).answers(MOST_LOGGED, "logs", 1, true).answers(-1, "log", 1, true, 300, 1);
    story.answers(662, "log", 1, true, 299, 0).then("pass", 9).answers(MOST_LOGGED, "logs", 1, true);
    story.answers(-1, "shows", 0, true).answers(11, "came", true).answers(361 + 1, "log", 1, true, 0, 0);
    // The sending tower's log of the way, and the other way's log, are others.
    story.answers(16, "logs", 0, true).answers(0, "logs", 1, false).then("mark", 1, false, true);
    story.answers(1, "logs", 1, false);
  }

  /** Own ones count among the 300, and where the log is full, a mark is put all the same. */
  private static void threeHundredthIsOwn() {
    Story story = level(2).times(100, "mark", 0, true, false).then("pass", 100).times(100, "mark", 0, true, false);
    story.then("pass", 100).times(99, "mark", 0, true, false).answers(299, "logs", 0, true);
    story.then("mark", 0, true, true).answers(MOST_LOGGED, "logs", 0, true).answers(94, "log", 0, true, 299, 1);
    story.answers(560, "log", 0, true, 299, 0).answers(1, "log", 0, true, 299, 2);
    story.answers(101, "mark", 0, true, true).then("mark", 0, true, false).answers(MOST_LOGGED, "logs", 0, true);
    story.answers(-1, "log", 0, true, 300, 1).answers(94, "log", 0, true, 299, 1).answers(95, "keeps", 0, true, 100);
  }
}
