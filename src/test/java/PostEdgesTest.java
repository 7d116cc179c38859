/**
 * DOC.md, Terms, "Books, dispatches", up to where a dispatch is sent, and the promises 7 to 11: each sentence that
 * names an edge, quoted at its test.
 */
public final class PostEdgesTest {
  private static final String NOT_NOW = Story.NOT_NOW;
  private static final Story NEW = new Story("a new object");
  private static final Story TWO = NEW.on("two towers").times(2, "tower", 50, 5);

  public static void main(String[] args) {
    eachBookItsOwn();
    pagesAndLines();
    severalSpotsOnePhrase();
    twoHundredSpots();
    nothingIsNoSpot();
    twelveTyped();
    cleared();
    sentOfOneToTwelve();
    fewerThanTwoTowers();
    phraseNotInTheBook();
    moreThanTwoHundred();
    marksUpToTwoHundred();
    lowestSpot();
    behindWhatIsKept();
    urgentAheadOfAll();
    urgentBehindUrgent();
    Checks.finish("PostEdgesTest");
  }

  /** "There are the books 0 to 2": what is written into one is in no other one. */
  private static void eachBookItsOwn() {
    for (int book = 0; book < 3; book++) {
      Story story = NEW.on("book " + book).then("write", book, 5, 6, 7);
      for (int other = 0; other < 3; other++) {
        story.answers(other == book ? 7 : -1, "write", other, 5, 6, 9);
      }
    }
  }

  /** "spots: a page and a line, each 0 to 91": each corner is a spot of its own, and so are neighbours. */
  private static void pagesAndLines() {
    int[][] spots = {{0, 0}, {0, 91}, {91, 0}, {91, 91}, {1, 0}, {0, 1}, {0, 90}, {1, 91}, {90, 91}, {91, 90}};
    Story story = NEW.on("corners");
    for (int i = 0; i < spots.length; i++) {
      story.answers(-1, "write", 0, spots[i][0], spots[i][1], i).then("write", 0, spots[i][0], spots[i][1], i);
    }
    for (int i = 0; i < spots.length; i++) {
      story.answers(i, "write", 0, spots[i][0], spots[i][1], -1);
    }
    Story two = TWO.on("phrases of 0 and 9999").then("write", 0, 0, 0, 9999).then("write", 0, 91, 91, 0);
    two.then("type", 0).then("type", 9999).then("send", false, 0, false).then("pass", 9);
    two.answers(0, "phrase", true, 0, 0, 0).answers(9999, "phrase", true, 0, 1, 0);
  }

  /** "a phrase can be at several spots, a spot has at most one"; "Returns what was there; -1 for nothing". */
  private static void severalSpotsOnePhrase() {
    Story story = NEW.on("7 twice").then("write", 0, 1, 1, 7).then("write", 0, 2, 2, 7);
    story.answers(7, "write", 0, 1, 1, -1).answers(7, "write", 0, 2, 2, -1);
    story.then("write", 0, 1, 1, 8).answers(8, "write", 0, 1, 1, 8).answers(7, "write", 0, 2, 2, 7);
    story.then("write", 0, 1, 1, -1).answers(-1, "write", 0, 1, 1, -1).answers(7, "write", 0, 2, 2, -1);
  }

  /** "if the book has 200 spots, and that is none of them, and phrase is not -1": each of the three left out. */
  private static void twoHundredSpots() {
    Story most = NEW.on("199 spots");
    for (int i = 0; i < 199; i++) {
      most.then("write", 2, i % 92, i / 92, i);
    }
    most.answers(-1, "write", 2, 91, 91, 5);
    Story full = most.on("the 200th").then("write", 2, 91, 91, 5);
    full.refuses(NOT_NOW, "write", 2, 91, 90, 5);
    full.refuses(NOT_NOW, "write", 2, 90, 91, 0);
    full.answers(5, "write", 2, 91, 91, 6).answers(0, "write", 2, 0, 0, 9999).answers(198, "write", 2, 14, 2, 0);
    full.answers(-1, "write", 2, 91, 90, -1).answers(-1, "write", 1, 91, 90, 5).answers(-1, "write", 0, 91, 90, 5);
    // A spot that got another phrase is the same spot; one that got nothing is none.
    full.on("another phrase").then("write", 2, 0, 0, 7).refuses(NOT_NOW, "write", 2, 91, 90, 5);
    full.on("nothing at none").then("write", 2, 50, 50, -1).refuses(NOT_NOW, "write", 2, 91, 90, 5);
    for (int i : new int[] {0, 100, 198}) {
      Story less = full.on("one less").then("write", 2, i % 92, i / 92, -1).answers(-1, "write", 2, 91, 90, 5);
      less.answers(-1, "write", 2, i % 92, i / 92, 5).then("write", 2, 91, 90, 5).answers(5, "write", 2, 91, 91, 0);
      less.refuses(NOT_NOW, "write", 2, i % 92, i / 92, 5);
    }
  }

  /** "-1 for nothing": however often nothing is put where nothing was, no spot comes of it. */
  private static void nothingIsNoSpot() {
    Story story = NEW.on("much nothing");
    for (int i = 0; i < 210; i++) {
      story.then("write", 0, i % 92, i / 92, -1);
    }
    story.answers(-1, "write", 0, 91, 91, 5);
    story.then("write", 0, 1, 1, 5).then("write", 0, 1, 1, -1).then("write", 0, 1, 1, -1)
        .answers(-1, "write", 0, 1, 1, 6);
  }

  /** "if it has 12": the 12th is typed, the 13th is not, whatever was sent or cleared ahead. */
  private static void twelveTyped() {
    Story story = NEW.on("typed");
    for (int phrases = 1; phrases <= 12; phrases++) {
      story.answers(phrases, "type", 9999).then("type", 9999);
    }
    story.refuses(NOT_NOW, "type", 9999);
    story.refuses(NOT_NOW, "type", 0);
    story.answers(12, "clear").then("clear").answers(1, "type", 0);
  }

  /** "Empties the text. Returns how many phrases it had": of none, some and 12; "Sends the text, which stays". */
  private static void cleared() {
    for (int phrases = 0; phrases <= 12; phrases++) {
      Story story = TWO.on(phrases + " typed").times(phrases, "type", 7).answers(phrases, "clear");
      story.on("cleared").then("clear").answers(0, "clear").refuses(NOT_NOW, "send", false, 0, false);
      if (phrases > 0) {
        story.then("write", 0, 1, 1, 7).then("send", true, 0, false).answers(phrases, "clear");
      }
    }
    // What was typed ahead of clear is not sent behind it.
    Story story = TWO.on("7, cleared, 8").then("write", 0, 1, 1, 7).then("write", 0, 2, 3, 8).then("type", 7);
    story.then("clear").then("type", 8).then("send", false, 0, false).answers(2, "keeps", 0, true, 1);
    story.answers(93, "keeps", 0, true, 3).answers(-1, "keeps", 0, true, 4);
  }

  /** "A text of 1 to 12 phrases": none is refused; each phrase is two signs, with BEGIN and END, and URGENT. */
  private static void sentOfOneToTwelve() {
    Story none = TWO.on("a book").then("write", 0, 1, 1, 7);
    for (int i = 0; i < 4; i++) {
      none.refuses(NOT_NOW, "send", i / 2 == 0, 0, i % 2 == 0);
    }
    for (int phrases = 1; phrases <= 12; phrases++) {
      Story story = none.on(phrases + " typed").times(phrases, "type", 7);
      story.answers(2 * phrases + 2, "send", false, 0, false).answers(2 * phrases + 2, "send", true, 0, false);
      story.answers(2 * phrases + 3, "send", false, 0, true).answers(2 * phrases + 3, "send", true, 0, true);
      story.then("send", true, 0, true).answers(96, "keeps", 1, false, 0).answers(92, "keeps", 1, false, 1);
      story.answers(93, "keeps", 1, false, 2 * phrases + 2).answers(-1, "keeps", 1, false, 2 * phrases + 3);
      story.then("pass", 40).answers(1, "came", false).answers(phrases, "told", false, 0, 2);
    }
  }

  /** "if there are fewer than 2 towers": none, one, and two; from either end. */
  private static void fewerThanTwoTowers() {
    for (int towers = 0; towers <= 3; towers++) {
      Story story = NEW.on(towers + " towers").times(towers, "tower", 50, 5).then("write", 0, 1, 1, 7).then("type", 7);
      for (int i = 0; i < 4; i++) {
        if (towers < 2) {
          story.refuses(NOT_NOW, "send", i / 2 == 0, 0, i % 2 == 0);
        } else {
          story.answers(4 + i % 2, "send", i / 2 == 0, 0, i % 2 == 1);
        }
      }
    }
  }

  /** "a phrase of it is not in the book": the first, one amid, the last; one of another book; one taken off it. */
  private static void phraseNotInTheBook() {
    Story book = TWO.on("a book").then("write", 0, 1, 1, 7).then("write", 1, 2, 2, 8).then("write", 0, 3, 3, 0);
    for (int at = 0; at < 12; at++) {
      Story story = book.on("8 at " + at).times(at, "type", 7).then("type", 8).times(11 - at, "type", 0);
      story.refuses(NOT_NOW, "send", at % 2 == 0, 0, at % 3 == 0);
      story.refuses(NOT_NOW, "send", false, 1, false);
      story.then("write", 0, 5, 5, 8).answers(26, "send", false, 0, false);
    }
    Story off = book.on("7 taken off").then("type", 7).answers(4, "send", false, 0, false);
    off.then("write", 0, 1, 1, -1).refuses(NOT_NOW, "send", false, 0, false);
    Story over = book.on("7 written over").then("type", 7).then("write", 0, 1, 1, 9);
    over.refuses(NOT_NOW, "send", false, 0, false);
  }

  /** "or the tower would keep more than 200 signs for that way": 200 are kept, 201 are not; each way for itself. */
  private static void moreThanTwoHundred() {
    for (int phrases : new int[] {1, 12}) {
      for (int i = 0; i < 4; i++) {
        boolean fromLast = i / 2 == 1;
        boolean isUrgent = i % 2 == 1;
        int tower = fromLast ? 1 : 0;
        int signs = 2 * phrases + (isUrgent ? 3 : 2);
        Story story = TWO.on("room for " + signs).then("write", 0, 1, 1, 7).times(phrases, "type", 7);
        story.times(200 - signs, "mark", tower, !fromLast, false);
        story.answers(200, "send", fromLast, 0, isUrgent).answers(signs, "send", !fromLast, 0, isUrgent);
        story.on("kept").then("send", fromLast, 0, isUrgent).answers(NOT_NOW, "mark", tower, !fromLast, true)
            .answers(isUrgent ? 95 : 93, "keeps", tower, !fromLast, 199).answers(-1, "keeps", tower, !fromLast, 200);
        story.then("mark", tower, !fromLast, true).refuses(NOT_NOW, "send", fromLast, 0, isUrgent);
        // What is shown is kept no longer.
        story.on("one shown").then("pass", 1).answers(200, "send", fromLast, 0, isUrgent);
      }
    }
  }

  /** Promise 11: "or would keep more than 200 signs for it": the 200th is put, the 201st is not, nor logged. */
  private static void marksUpToTwoHundred() {
    for (boolean up : new boolean[] {true, false}) {
      Story story = NEW.on("three towers").times(3, "tower", 50, 5).times(199, "mark", 1, up, false);
      story.answers(200, "mark", 1, up, true).then("mark", 1, up, true);
      story.refuses(NOT_NOW, "mark", 1, up, true);
      story.refuses(NOT_NOW, "mark", 1, up, false);
      story.answers(200, "logs", 1, up).answers(1, "mark", 1, !up, true);
      story.on("one shown").then("pass", 1).answers(200, "mark", 1, up, true);
    }
  }

  /** "each phrase by its lowest spot there, by pages, then lines": in whichever order they were written. */
  private static void lowestSpot() {
    int[][][] rows = {
      {{0, 91}, {1, 0}}, {{0, 0}, {91, 91}}, {{5, 6}, {5, 7}}, {{5, 7}, {6, 6}}, {{90, 91}, {91, 0}}, {{0, 0}, {0, 1}},
    };
    for (int[][] row : rows) {
      for (int first = 0; first < 2; first++) {
        int[] one = row[first];
        int[] other = row[1 - first];
        Story story = TWO.on("two spots").then("write", 0, one[0], one[1], 7).then("write", 0, other[0], other[1], 7);
        story.then("type", 7).then("send", false, 0, false);
        story.answers(row[0][0], "keeps", 0, true, 1).answers(row[0][1], "keeps", 0, true, 2);
        // By the book as it is when the text is sent.
        story.then("write", 0, row[0][0], row[0][1], -1).then("send", false, 0, false);
        story.answers(row[1][0], "keeps", 0, true, 5).answers(row[1][1], "keeps", 0, true, 6);
      }
    }
    // Lower spots of other phrases, and of other books, do not count.
    Story story = TWO.on("others below").then("write", 0, 0, 0, 8).then("write", 1, 0, 1, 7).then("write", 0, 9, 9, 7);
    story.then("type", 7).then("send", false, 0, false).answers(9, "keeps", 0, true, 1);
  }

  /** "all kept behind what that tower keeps for that way": nothing, marks, dispatches. */
  private static void behindWhatIsKept() {
    Story story = TWO.on("a text").then("write", 0, 1, 2, 7).then("type", 7);
    story.answers(4, "send", false, 0, false).then("mark", 0, true, true).answers(5, "send", false, 0, false);
    story.then("send", false, 0, false);
    keeps(story, 94, 92, 1, 2, 93);
    story.then("send", false, 0, false).then("send", true, 0, false);
    keeps(story, 94, 92, 1, 2, 93, 92, 1, 2, 93);
  }

  /** "kept ahead of all that that tower keeps there, marks with it": not ahead of what it shows. */
  private static void urgentAheadOfAll() {
    Story story = TWO.on("a text").then("write", 0, 1, 2, 7).then("type", 7);
    story.on("nothing kept").then("send", false, 0, true).answers(96, "keeps", 0, true, 0)
        .answers(93, "keeps", 0, true, 4);
    story.then("mark", 0, true, false).then("send", false, 0, false).then("mark", 0, true, true);
    story.then("send", false, 0, true);
    keeps(story, 96, 92, 1, 2, 93, 95, 92, 1, 2, 93, 94);
    Story cut = TWO.on("cut").then("write", 0, 1, 2, 7).then("type", 7).then("send", false, 0, false).then("pass", 2);
    cut.answers(1, "shows", 0, true).then("send", false, 0, true).answers(1, "shows", 0, true);
    keeps(cut, 96, 92, 1, 2, 93, 2, 93);
  }

  /** "but behind what is left there of other urgent ones": all of it, some, its END alone, nothing. */
  private static void urgentBehindUrgent() {
    int[] first = {96, 92, 1, 2, 93};
    int[] second = {96, 92, 3, 4, 93};
    int[] ordinary = {92, 1, 2, 93};
    for (int shown = 0; shown <= 7; shown++) {
      Story story = TWO.on("shown " + shown).then("write", 0, 1, 2, 7).then("write", 0, 3, 4, 8).then("type", 7);
      story.then("send", false, 0, false).then("mark", 0, true, true).then("send", false, 0, true);
      story.times(shown, "pass", 1).then("clear").then("type", 8).then("send", false, 0, true);
      int left = Math.max(0, 5 - shown);
      int[] due = new int[15 - shown];
      System.arraycopy(first, 5 - left, due, 0, left);
      System.arraycopy(second, 0, due, left, 5);
      int rest = 4 - Math.max(0, shown - 5);
      System.arraycopy(ordinary, 4 - rest, due, left + 5, rest);
      due[due.length - 1] = 94;
      keeps(story, due);
    }
    // Behind several urgent ones, with a mark that came between: that is no urgent one, and waits for all.
    Story story = TWO.on("several").then("write", 0, 1, 2, 7).then("type", 7).then("send", false, 0, true);
    story.then("mark", 0, true, false).then("send", false, 0, true).then("pass", 7).then("send", false, 0, true);
    keeps(story, 1, 2, 93, 96, 92, 1, 2, 93, 95);
  }

  private static void keeps(Story story, int... due) {
    for (int place = 0; place < due.length; place++) {
      story.answers(due[place], "keeps", 0, true, place);
    }
    story.answers(-1, "keeps", 0, true, due.length);
  }
}
