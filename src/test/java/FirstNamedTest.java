/**
 * "If several exceptions apply, the one that is named first in the throws clause is thrown", and "A call that throws
 * an exception changes nothing": each pair of reasons that can hold at once, with each reason alone beside it.
 *
 * Some pairs can't: a stretch, a tower or a book that is not there has no hills, is no end and is not full.
 */
public final class FirstNamedTest {
  private static final String NO_SUCH = Story.NO_SUCH;
  private static final String OUT_OF_RANGE = Story.OUT_OF_RANGE;
  private static final String NOT_NOW = Story.NOT_NOW;

  private static final Story NEW = new Story("a new object");
  private static final Story TWO = NEW.on("two towers").then("tower", 50, 5).then("tower", 50, 5);

  public static void main(String[] args) {
    tower();
    hill();
    airAndTire();
    write();
    type();
    send();
    mark();
    spy();
    log();
    told();
    Checks.finish("FirstNamedTest");
  }

  /** IllegalArgumentException ahead of IllegalStateException, for each reason of that. */
  private static void tower() {
    Story[] closed = {
      NEW.on("twelve towers").times(12, "tower", 50, 5),
      NEW.on("a minute").then("pass", 1),
      TWO.on("a mark").then("mark", 0, true, false),
      TWO.on("a dispatch").then("write", 0, 1, 2, 7).then("type", 7).then("send", true, 0, false),
    };
    for (Story story : closed) {
      story.refuses(NOT_NOW, "tower", 0, 1);
      story.refuses(NOT_NOW, "tower", 99, 20);
      story.refuses(OUT_OF_RANGE, "tower", -1, 1);
      story.refuses(OUT_OF_RANGE, "tower", 100, 1);
      story.refuses(OUT_OF_RANGE, "tower", 0, 0);
      story.refuses(OUT_OF_RANGE, "tower", 0, 21);
      story.refuses(OUT_OF_RANGE, "tower", -1, 21);
    }
  }

  /** All three: the stretch, the ranges, and a stretch that has 3 hills. */
  private static void hill() {
    Story full = TWO.on("three hills").times(3, "hill", 0, 10, 2);
    full.refuses(NOT_NOW, "hill", 0, 0, 1);
    full.refuses(NOT_NOW, "hill", 0, 99, 4);
    full.refuses(OUT_OF_RANGE, "hill", 0, -1, 1);
    full.refuses(OUT_OF_RANGE, "hill", 0, 100, 1);
    full.refuses(OUT_OF_RANGE, "hill", 0, 0, 0);
    full.refuses(OUT_OF_RANGE, "hill", 0, 0, 5);
    for (int none : new int[] {-1, 1}) {
      full.refuses(NO_SUCH, "hill", none, 0, 1);
      full.refuses(NO_SUCH, "hill", none, 100, 1);
      full.refuses(NO_SUCH, "hill", none, 0, 5);
      full.refuses(NO_SUCH, "hill", none, -1, 0);
    }
  }

  private static void airAndTire() {
    for (int none : new int[] {-1, 1}) {
      TWO.refuses(NO_SUCH, "air", none, -1);
      TWO.refuses(NO_SUCH, "air", none, 3);
    }
    for (int none : new int[] {-1, 2}) {
      TWO.refuses(NO_SUCH, "tire", none, -1);
      TWO.refuses(NO_SUCH, "tire", none, 1010);
    }
  }

  private static void write() {
    Story full = NEW.on("200 spots");
    for (int i = 0; i < 200; i++) {
      full.then("write", 1, i / 92, i % 92, i);
    }
    full.refuses(NOT_NOW, "write", 1, 91, 91, 0);
    full.refuses(OUT_OF_RANGE, "write", 1, 92, 0, 0);
    full.refuses(OUT_OF_RANGE, "write", 1, -1, 0, 0);
    full.refuses(OUT_OF_RANGE, "write", 1, 3, 92, 0);
    full.refuses(OUT_OF_RANGE, "write", 1, 3, -1, 0);
    full.refuses(OUT_OF_RANGE, "write", 1, 3, 0, 10000);
    full.refuses(OUT_OF_RANGE, "write", 1, 3, 0, -2);
    for (int none : new int[] {-1, 3}) {
      full.refuses(NO_SUCH, "write", none, 3, 0, 0);
      full.refuses(NO_SUCH, "write", none, 92, 0, 0);
      full.refuses(NO_SUCH, "write", none, 0, -1, 0);
      full.refuses(NO_SUCH, "write", none, 0, 0, -2);
      full.refuses(NO_SUCH, "write", none, 92, 92, 10000);
    }
  }

  private static void type() {
    Story full = NEW.on("twelve typed").times(12, "type", 3);
    full.refuses(NOT_NOW, "type", 0);
    full.refuses(NOT_NOW, "type", 9999);
    full.refuses(OUT_OF_RANGE, "type", -1);
    full.refuses(OUT_OF_RANGE, "type", 10000);
  }

  /** No such book ahead of: fewer than 2 towers, no text, a phrase that no book has, no room. */
  private static void send() {
    Story known = TWO.on("a book").then("write", 0, 1, 2, 7);
    Story[] notNow = {
      NEW.on("a text without towers").then("write", 0, 1, 2, 7).then("type", 7),
      NEW.on("one tower").then("write", 0, 1, 2, 7).then("type", 7).then("tower", 50, 5),
      known.on("no text"),
      known.on("a phrase that is not in it").then("type", 8),
      // 7 times 26 signs are kept for each way: 26 or 27 more would be above 200.
      known.on("no room").times(12, "type", 7).times(7, "send", false, 0, false).times(7, "send", true, 0, true),
    };
    for (Story story : notNow) {
      for (int i = 0; i < 4; i++) {
        story.refuses(NOT_NOW, "send", i / 2 == 0, 0, i % 2 == 0);
        story.refuses(NO_SUCH, "send", i / 2 == 0, -1, i % 2 == 0);
        story.refuses(NO_SUCH, "send", i / 2 == 0, 3, i % 2 == 0);
      }
    }
  }

  /** A tower beyond the last one is none: not the end of the way up; one below 0 not that of the way down. */
  private static void mark() {
    Story full = TWO.on("no room").times(200, "mark", 0, true, true);
    full.refuses(NOT_NOW, "mark", 0, true, true);
    full.refuses(NOT_NOW, "mark", 0, true, false);
    full.refuses(NOT_NOW, "mark", 1, true, true);
    full.refuses(NOT_NOW, "mark", 0, false, false);
    full.refuses(NO_SUCH, "mark", 2, true, true);
    full.refuses(NO_SUCH, "mark", -1, false, false);
  }

  private static void spy() {
    Story full = TWO.on("six spies").times(6, "spy", 0);
    full.refuses(NOT_NOW, "spy", 0);
    full.refuses(NOT_NOW, "spy", 1);
    full.refuses(NO_SUCH, "spy", 2);
    full.refuses(NO_SUCH, "spy", -1);
    TWO.refuses(NOT_NOW, "spy", 1);
    TWO.refuses(NO_SUCH, "spy", 2);
  }

  private static void log() {
    for (int what : new int[] {-1, 3}) {
      TWO.refuses(NO_SUCH, "log", -1, true, 0, what);
      TWO.refuses(NO_SUCH, "log", 2, true, 0, what);
      TWO.refuses(NO_SUCH, "log", 1, true, -1, what);
      TWO.refuses(OUT_OF_RANGE, "log", 1, true, 0, what);
    }
    TWO.refuses(NO_SUCH, "log", 2, false, -1, 0);
  }

  private static void told() {
    Story story = TWO.on("a dispatch").then("write", 0, 1, 2, 7).then("type", 7).then("send", false, 0, false)
        .then("pass", 9).answers(1, "came", true);
    for (int what : new int[] {-1, 4}) {
      story.refuses(NO_SUCH, "told", true, -1, what);
      story.refuses(NO_SUCH, "told", true, 1, what);
      story.refuses(NO_SUCH, "told", false, 0, what);
      story.refuses(OUT_OF_RANGE, "told", true, 0, what);
    }
  }
}
