/**
 * Each range that a promise names: its least and its most value are taken, the next ones outside are refused, and
 * what is refused changes nothing. Then the calls that change nothing though they are answered.
 */
public final class RangesTest {
  private static final String NO_SUCH = Story.NO_SUCH;
  private static final String OUT_OF_RANGE = Story.OUT_OF_RANGE;
  private static final Object AT = Story.AT;
  private static final int[] LENGTHS = {1, 2, 3, 10, 11, 20};

  private static final Story NEW = new Story("a new object");
  private static final Story ONE = NEW.on("one tower").then("tower", 50, 5);
  private static final Story BUSY = busy();

  public static void main(String[] args) {
    tower();
    hill();
    airTireSeed();
    write();
    typeSendMarkSpy();
    pass();
    readings();
    tapes();
    trials();
    nothingOfItsKind();
    answeredAndUnchanged();
    Checks.finish("RangesTest");
  }

  /** A line of four towers on which both ways, three books, marks, two spies and dispatches are under way. */
  private static Story busy() {
    Story story = NEW.on("busy").then("tower", 40, 9).then("tower", 60, 5).then("tower", 50, 12).then("tower", 45, 10);
    story.then("hill", 0, 30, 2).then("hill", 1, 50, 11).then("air", 2, 1).then("tire", 1, 300).then("tire", 3, 500);
    story.then("seed", 123).then("write", 0, 1, 2, 7).then("write", 0, 1, 3, 8).then("write", 1, 0, 0, 7);
    story.then("write", 2, 91, 91, 8).then("type", 7).then("type", 8).then("spy", 0).then("spy", 1);
    story.then("send", false, 0, false).then("send", true, 0, true).then("pass", 12);
    story.then("mark", 1, true, false).then("mark", 2, false, true).then("send", false, 0, true).then("pass", 5);
    story.then("type", 7).then("send", false, 0, false).then("send", true, 0, false).then("pass", 1);
    story.answers(1, "came", true).answers(1, "came", false).answers(1, "open", true).answers(2, "told", true, 0, 2);
    return story;
  }

  /** Promise 2: "height: 0 to 99", "far: 1 to 20"; both are told of the first tower, too. */
  private static void tower() {
    for (Story story : new Story[] {NEW, ONE}) {
      story.range(OUT_OF_RANGE, 0, 99, "tower", AT, 1);
      story.range(OUT_OF_RANGE, 0, 99, "tower", AT, 20);
      story.range(OUT_OF_RANGE, 1, 20, "tower", 0, AT);
      story.range(OUT_OF_RANGE, 1, 20, "tower", 99, AT);
    }
  }

  /** Promise 3: "no such stretch", "height: 0 to 99", "place: 1 to less than the stretch is long". */
  private static void hill() {
    BUSY.range(NO_SUCH, 0, 2, "hill", AT, 0, 1);
    BUSY.range(OUT_OF_RANGE, 0, 99, "hill", 0, AT, 1);
    BUSY.range(OUT_OF_RANGE, 1, 4, "hill", 0, 0, AT);
    BUSY.range(OUT_OF_RANGE, 1, 11, "hill", 1, 0, AT);
    for (int length : LENGTHS) {
      Story two = ONE.on("the next one " + length + " ahead").then("tower", 50, length);
      if (length == 1) {
        two.refuses(OUT_OF_RANGE, "hill", 0, 0, 0);
        two.refuses(OUT_OF_RANGE, "hill", 0, 0, 1);
      } else {
        two.range(OUT_OF_RANGE, 1, length - 1, "hill", 0, 0, AT);
      }
    }
  }

  /** Promises 4 to 6: "air: 0 to 2", "tiredness: 0 to 1009", "seed: 0 to 9999". */
  private static void airTireSeed() {
    BUSY.range(NO_SUCH, 0, 2, "air", AT, 0);
    BUSY.range(OUT_OF_RANGE, 0, 2, "air", 0, AT);
    BUSY.range(NO_SUCH, 0, 3, "tire", AT, 0);
    BUSY.range(OUT_OF_RANGE, 0, 1009, "tire", 1, AT);
    BUSY.range(OUT_OF_RANGE, 0, 9999, "seed", AT);
    NEW.range(OUT_OF_RANGE, 0, 9999, "seed", AT);
  }

  /** Promise 7: the books 0 to 2, "page: 0 to 91", "line: 0 to 91", "phrase: 0 to 9999; -1 for nothing". */
  private static void write() {
    for (Story story : new Story[] {NEW, BUSY}) {
      story.range(NO_SUCH, 0, 2, "write", AT, 1, 2, 5);
      story.range(OUT_OF_RANGE, 0, 91, "write", 0, AT, 2, 5);
      story.range(OUT_OF_RANGE, 0, 91, "write", 0, 1, AT, 5);
      story.range(OUT_OF_RANGE, -1, 9999, "write", 0, 1, 2, AT);
      // Nothing is put at a page or a line that is none, either.
      story.range(OUT_OF_RANGE, 0, 91, "write", 0, AT, 2, -1);
      story.range(OUT_OF_RANGE, 0, 91, "write", 0, 1, AT, -1);
    }
  }

  /** Promises 8 and 10 to 12: "phrase: 0 to 9999", no such book, no such tower. */
  private static void typeSendMarkSpy() {
    NEW.range(OUT_OF_RANGE, 0, 9999, "type", AT);
    // A text takes what no book has; that it is -1, which a book takes for nothing, is refused.
    BUSY.range(OUT_OF_RANGE, 0, 9999, "type", AT);
    Story all = BUSY.on("7 in all books").then("clear").then("type", 7).then("write", 2, 4, 4, 7);
    for (int i = 0; i < 4; i++) {
      all.range(NO_SUCH, 0, 2, "send", i / 2 == 0, AT, i % 2 == 0);
    }
    for (int none : new int[] {-1, 4, Integer.MIN_VALUE, Integer.MAX_VALUE}) {
      BUSY.refuses(NO_SUCH, "mark", none, true, true);
      BUSY.refuses(NO_SUCH, "mark", none, false, false);
      BUSY.refuses(NO_SUCH, "spy", none);
    }
  }

  /** Promise 13: "minutes: 1 to 200". */
  private static void pass() {
    NEW.range(OUT_OF_RANGE, 1, 200, "pass", AT);
    BUSY.range(OUT_OF_RANGE, 1, 200, "pass", AT);
    NEW.answers(361, "pass", 1).answers(560, "pass", 200);
  }

  /** Promises 16 to 21: no such stretch or tower, "place: 0 for the next one", "entry", "what: 0 to 2". */
  private static void readings() {
    BUSY.range(NO_SUCH, 0, 2, "sees", AT);
    for (boolean up : new boolean[] {true, false}) {
      BUSY.range(NO_SUCH, 0, 3, "shows", AT, up);
      BUSY.range(NO_SUCH, 0, 3, "keeps", AT, up, 0);
      BUSY.range(NO_SUCH, 0, 3, "logs", AT, up);
      BUSY.range(NO_SUCH, 0, 3, "log", AT, up, 0, 0);
      BUSY.range(OUT_OF_RANGE, 0, 2, "log", 1, up, 0, AT);
      // Behind the last entry the answer is -1, but what it is asked of must be in its range there, too.
      BUSY.range(OUT_OF_RANGE, 0, 2, "log", 1, up, 300, AT);
      BUSY.range(NO_SUCH, 0, 3, "differs", AT, 1, up);
      BUSY.range(NO_SUCH, 0, 3, "differs", 1, AT, up);
      for (int below : new int[] {-1, -2, Integer.MIN_VALUE}) {
        BUSY.refuses(NO_SUCH, "keeps", 0, up, below);
        BUSY.refuses(NO_SUCH, "log", 1, up, below, 0);
      }
      for (int above : new int[] {199, 200, 201, 299, 300, 301, Integer.MAX_VALUE}) {
        BUSY.answers(-1, "keeps", 0, up, above);
        for (int what = 0; what < 3; what++) {
          BUSY.answers(-1, "log", 1, up, above, what);
        }
      }
    }
  }

  /** Promises 23 and 24: "dispatch: 0 for the first one", "what: 0 to 3", no such place or book. */
  private static void tapes() {
    for (boolean up : new boolean[] {true, false}) {
      BUSY.range(NO_SUCH, 0, 0, "told", up, AT, 0);
      BUSY.range(OUT_OF_RANGE, 0, 3, "told", up, 0, AT);
      BUSY.range(NO_SUCH, 0, 0, "phrase", up, AT, 0, 0);
      BUSY.range(NO_SUCH, 0, 1, "phrase", up, 0, AT, 0);
      BUSY.range(NO_SUCH, 0, 2, "phrase", up, 0, 0, AT);
    }
    Story later = BUSY.on("later").then("pass", 60).answers(3, "came", true).answers(3, "told", true, 2, 2);
    later.range(NO_SUCH, 0, 2, "told", true, AT, 3);
    later.range(NO_SUCH, 0, 2, "phrase", true, AT, 1, 0);
    later.range(NO_SUCH, 0, 2, "phrase", true, 2, AT, 0);
    // A dispatch has the places that it has itself, whatever others have.
    later.range(NO_SUCH, 0, 1, "phrase", true, 0, AT, 0);
  }

  /** Promises 26 to 29: no such spy or book, "signs: 1 to 99", and -1 with fewer than 2 towers. */
  private static void trials() {
    BUSY.range(NO_SUCH, 0, 1, "seen", AT);
    BUSY.range(NO_SUCH, 0, 1, "tries", AT, 0);
    BUSY.range(NO_SUCH, 0, 2, "tries", 0, AT);
    for (String call : new String[] {"comes", "comesAnew"}) {
      for (Story story : new Story[] {NEW, ONE, BUSY}) {
        story.range(OUT_OF_RANGE, 1, 99, call, AT);
      }
      NEW.answers(-1, call, 1).answers(-1, call, 99);
      ONE.answers(-1, call, 1).answers(-1, call, 99);
      ONE.on("a second one").then("tower", 0, 1).answers(2, call, 1).answers(100, call, 99);
      BUSY.answers(4, call, 1).answers(102, call, 99);
    }
  }

  /** "throws IndexOutOfBoundsException if there is no such one": where there is none at all, 0 is none, too. */
  private static void nothingOfItsKind() {
    for (Story story : new Story[] {NEW, ONE}) {
      story.refuses(NO_SUCH, "hill", 0, 0, 1);
      story.refuses(NO_SUCH, "air", 0, 0);
      story.refuses(NO_SUCH, "sees", 0);
      story.refuses(NO_SUCH, "seen", 0);
      story.refuses(NO_SUCH, "tries", 0, 0);
      story.refuses(NO_SUCH, "told", true, 0, 0);
      story.refuses(NO_SUCH, "phrase", false, 0, 0, 0);
    }
    NEW.refuses(NO_SUCH, "tire", 0, 0);
    NEW.refuses(NO_SUCH, "mark", 0, true, true);
    NEW.refuses(NO_SUCH, "spy", 0);
    NEW.refuses(NO_SUCH, "shows", 0, true);
    NEW.refuses(NO_SUCH, "keeps", 0, true, 0);
    NEW.refuses(NO_SUCH, "logs", 0, false);
    NEW.refuses(NO_SUCH, "log", 0, false, 0, 0);
    NEW.refuses(NO_SUCH, "differs", 0, 0, true);
    ONE.refuses(NO_SUCH, "differs", 0, 1, true);
  }

  /** "nothing from here on changes anything": the calls that only tell, each one answered. */
  private static void answeredAndUnchanged() {
    for (String call : new String[] {"minute", "towers"}) {
      NEW.changesNothing(call);
      BUSY.changesNothing(call);
    }
    for (boolean up : new boolean[] {true, false}) {
      BUSY.changesNothing("shows", 1, up);
      BUSY.changesNothing("keeps", 0, up, 0);
      BUSY.changesNothing("logs", 1, up);
      BUSY.changesNothing("log", 1, up, 0, 1);
      BUSY.changesNothing("differs", 1, 2, up);
      BUSY.changesNothing("came", up);
      BUSY.changesNothing("told", up, 0, 0);
      BUSY.changesNothing("phrase", up, 0, 1, 0);
      BUSY.changesNothing("open", up);
    }
    BUSY.changesNothing("sees", 1);
    BUSY.changesNothing("seen", 0);
    BUSY.changesNothing("tries", 0, 0);
    BUSY.changesNothing("comes", 99);
    BUSY.changesNothing("comesAnew", 99);
    // These may change something, but do not as it is so already.
    BUSY.changesNothing("air", 2, 1);
    BUSY.changesNothing("tire", 1, 300);
    BUSY.changesNothing("seed", 123);
    BUSY.changesNothing("write", 0, 1, 2, 7);
    BUSY.changesNothing("write", 0, 44, 44, -1);
    NEW.changesNothing("clear");
  }
}
