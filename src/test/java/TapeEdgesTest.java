/**
 * DOC.md, Terms, "A tape is read sign by sign", and the promises 17 to 25: each sentence that names an edge, quoted
 * at its test.
 *
 * Not reached by any calls, and hence without a test:
 * - "the first 60": the signs below 92 that come between a BEGIN and its END are those of one text, 24 at most, and of
 *   urgent dispatches between, which belong to these.
 * - "a last one alone being lost": for the same reason a dispatch that came has an even count of signs.
 * - "BEGIN: if it is not urgent, and the dispatch that was begun the latest .. is not urgent either", with a latest one
 *   that is urgent: urgent dispatches are kept whole, one behind the other, so an urgent one has ended when a BEGIN
 *   comes. Hence no more than two are ever open, either.
 */
public final class TapeEdgesTest {
  private static final Story NEW = new Story("a new object");
  private static final Story THREE = NEW.on("three towers").times(3, "tower", 50, 5).then("write", 0, 1, 2, 7);
  private static final int[] MARKS = {94, 95};

  public static void main(String[] args) {
    rightBehindUrgent();
    beginDropsWhatIsOpen();
    beginBehindUrgent();
    ownersOfSigns();
    lostWithoutAnOpenOne();
    fewerThanForty();
    fortyWithInterrupted();
    errorDropsAll();
    restDoesNothing();
    twoByTwo();
    noneAtItsSpot();
    toldMinutes();
    keptPlaces();
    loggedEntries();
    differsAtEachPlace();
    differsWithOwn();
    differsWhereFull();
    Checks.finish("TapeEdgesTest");
  }

  /** "URGENT makes a BEGIN right behind it urgent": a mark of the tower 1 between the two, ahead of and behind both. */
  private static void rightBehindUrgent() {
    for (int mark : MARKS) {
      for (int shown = 1; shown <= 6; shown++) {
        // A mark behind so many signs of the dispatch: 1 is URGENT, 2 is BEGIN.
        Story story = THREE.on(mark + " behind " + (shown - 1)).then("type", 7).then("send", false, 0, true);
        story.times(shown, "pass", 1).then("mark", 1, true, mark == 94).then("pass", 20);
        story.answers(mark, "log", 2, true, Math.min(shown - 1, 5), 1).answers(6, "logs", 2, true);
        boolean isDropped = mark == 94 && shown >= 3 && shown <= 5;
        story.answers(isDropped ? 0 : 1, "came", true).answers(0, "open", true);
        if (!isDropped) {
          story.answers(shown == 2 ? 0 : 1, "told", true, 0, 3);
        }
      }
    }
    // An URGENT makes one BEGIN urgent, not the next one, too.
    Story next = THREE.on("then another").then("type", 7).then("send", false, 0, true).then("send", false, 0, false);
    next.then("pass", 20).answers(1, "told", true, 0, 3).answers(0, "told", true, 1, 3);
  }

  /** "all that are open are dropped; then a dispatch is open": an URGENT that a mark parts from its BEGIN. */
  private static void beginDropsWhatIsOpen() {
    for (int mark : MARKS) {
      Story story = THREE.on("cut by " + mark).times(2, "type", 7).then("send", false, 0, false).then("pass", 3);
      // 92 1 2 were shown by the tower 0; then 96 is shown at 364, and taken at 365, when the mark is put behind it.
      story.then("send", false, 0, true).then("pass", 2).answers(96, "shows", 1, true);
      story.then("mark", 1, true, mark == 94).then("pass", 1).answers(1, "open", true);
      story.then("pass", 1).answers(mark == 94 ? 0 : 1, "open", true).then("pass", 1).answers(1, "open", true);
      story.then("pass", 20).answers(1, "came", true).answers(0, "told", true, 0, 3).answers(2, "told", true, 0, 2);
      story.answers(368, "told", true, 0, 1).answers(0, "open", true);
    }
  }

  /** The same BEGIN, right behind URGENT, drops nothing; and neither does one with nothing open. */
  private static void beginBehindUrgent() {
    Story story = THREE.on("interrupted").times(2, "type", 7).then("send", false, 0, false).then("pass", 3);
    story.answers(1, "open", true).then("send", false, 0, true).then("pass", 3).answers(1, "open", true);
    story.then("pass", 1).answers(2, "open", true).then("pass", 4).answers(2, "open", true);
    story.then("pass", 1).answers(1, "open", true).answers(1, "came", true).answers(1, "told", true, 0, 3);
    story.then("pass", 3).answers(0, "open", true).answers(2, "came", true).answers(0, "told", true, 1, 3);
    Story plain = THREE.on("plain").then("type", 7).times(2, "send", false, 0, false).then("pass", 2);
    plain.answers(0, "open", true).then("pass", 1).answers(1, "open", true).then("pass", 2).answers(1, "open", true);
    plain.then("pass", 1).answers(0, "open", true).then("pass", 1).answers(1, "open", true).then("pass", 3);
    plain.answers(0, "open", true).answers(2, "came", true);
  }

  /** "belongs to the one that was begun the latest, of those that are open": whichever sign of it is interrupted. */
  private static void ownersOfSigns() {
    for (int shown = 1; shown <= 6; shown++) {
      Story story = THREE.on("interrupted behind " + shown).then("write", 0, 1, 3, 8).then("write", 0, 1, 4, 9);
      story.then("type", 7).then("type", 8).then("send", false, 0, false).times(shown, "pass", 1);
      story.then("clear").then("type", 9).then("send", false, 0, true).then("send", false, 0, true).then("pass", 30);
      story.answers(3, "came", true).answers(0, "open", true);
      int ordinary = shown == 6 ? 0 : 2;
      int urgent = shown == 6 ? 1 : 0;
      story.answers(0, "told", true, ordinary, 3).answers(2, "told", true, ordinary, 2);
      story.answers(7, "phrase", true, ordinary, 0, 0).answers(8, "phrase", true, ordinary, 1, 0);
      for (int i = urgent; i < urgent + 2; i++) {
        story.answers(1, "told", true, i, 3).answers(1, "told", true, i, 2).answers(9, "phrase", true, i, 0, 0);
      }
    }
  }

  /** "without an open one it is lost", and an END without one does nothing: an ERROR behind each sign. */
  private static void lostWithoutAnOpenOne() {
    for (int signs = 1; signs <= 3; signs++) {
      Story story = THREE.on("ERROR behind " + signs).then("type", 7).times(2, "send", false, 0, false);
      story.times(signs + 1, "pass", 1).then("mark", 1, true, true).then("pass", 20);
      story.answers(1, "came", true).answers(0, "open", true).answers(1, "told", true, 0, 2);
      story.answers(7, "phrase", true, 0, 0, 0).answers(Story.NO_SUCH, "phrase", true, 0, 1, 0);
      // 4 signs, the ERROR, and 4 signs, the first one at 363.
      story.answers(368, "told", true, 0, 1).answers(371, "told", true, 0, 0);
    }
  }

  /** "END ends that one: it came, if fewer than 40 came there": the 40th came, the 41st did not, and is not open. */
  private static void fewerThanForty() {
    for (boolean up : new boolean[] {true, false}) {
      Story story = NEW.on("forty").times(2, "tower", 50, 5).then("write", 0, 1, 2, 7).then("type", 7);
      for (int i = 0; i < 39; i++) {
        story.then("send", !up, 0, false).then("pass", 5);
      }
      story.answers(39, "came", up).answers(Story.NO_SUCH, "told", up, 39, 0);
      story.then("send", !up, 0, true).then("pass", 5).answers(1, "open", up).then("pass", 1);
      story.answers(40, "came", up).answers(0, "open", up).answers(1, "told", up, 39, 3);
      story.then("send", !up, 0, false).then("pass", 4).answers(1, "open", up).answers(40, "came", up);
      story.then("pass", 1).answers(40, "came", up).answers(0, "open", up).answers(1, "told", up, 39, 3);
      story.refuses(Story.NO_SUCH, "told", up, 40, 0);
      story.refuses(Story.NO_SUCH, "phrase", up, 40, 0, 0);
      story.then("send", up, 0, false).then("pass", 5).answers(1, "came", !up).answers(40, "came", up);
      story.answers(365, "told", up, 0, 0).answers(7, "phrase", up, 0, 0, 0).answers(7, "phrase", up, 39, 0, 0);
    }
  }

  /** "it came, if fewer than 40 came there": of two that are open, the one that ends first is the 40th. */
  private static void fortyWithInterrupted() {
    Story story = NEW.on("forty").times(2, "tower", 50, 5).then("write", 0, 1, 2, 7).then("type", 7);
    for (int i = 0; i < 39; i++) {
      story.then("send", false, 0, false).then("pass", 5);
    }
    story.then("send", false, 0, false).then("pass", 2).then("send", false, 0, true).then("pass", 3);
    story.answers(39, "came", true).answers(2, "open", true).then("pass", 3);
    story.answers(40, "came", true).answers(1, "open", true).answers(1, "told", true, 39, 3).then("pass", 2);
    story.answers(40, "came", true).answers(0, "open", true).answers(1, "told", true, 39, 3);
  }

  /** "ERROR drops all that are open": none, one, and two of them. */
  private static void errorDropsAll() {
    Story none = THREE.on("none open").then("mark", 1, true, true).then("pass", 2);
    none.answers(0, "open", true).answers(0, "came", true).answers(94, "log", 2, true, 0, 1);
    none.then("type", 7).then("send", false, 0, false).then("pass", 9).answers(1, "came", true);
    Story one = THREE.on("one open").then("type", 7).then("send", false, 0, false).then("pass", 3);
    one.answers(1, "open", true).then("mark", 1, true, true).then("pass", 1).answers(1, "open", true);
    one.then("pass", 1).answers(0, "open", true).then("pass", 9).answers(0, "came", true).answers(0, "open", true);
    Story two = THREE.on("two open").times(2, "type", 7).then("send", false, 0, false).then("pass", 3);
    two.then("send", false, 0, true).then("pass", 4).answers(2, "open", true).then("mark", 1, true, true)
        .then("pass", 1);
    two.answers(2, "open", true).then("pass", 1).answers(0, "open", true).then("pass", 20);
    two.answers(0, "open", true).answers(0, "came", true).answers(0, "open", false);
    // One that came ahead of the ERROR stays, and so does what comes the other way.
    Story came = THREE.on("came ahead").then("type", 7).then("send", false, 0, false).then("send", true, 0, false);
    came.then("pass", 6).then("mark", 0, true, true).then("pass", 9).answers(1, "came", true).answers(1, "came", false);
    came.answers(7, "phrase", true, 0, 0, 0).answers(94, "log", 2, true, 4, 1);
  }

  /** "The rest does nothing": WAIT anywhere in a dispatch, and URGENT ahead of it. */
  private static void restDoesNothing() {
    for (int shown = 1; shown <= 5; shown++) {
      Story story = THREE.on("WAIT behind " + shown).then("type", 7).then("send", false, 0, false);
      story.times(shown + 1, "pass", 1).then("mark", 1, true, false).then("pass", 20).answers(1, "came", true);
      story.answers(1, "told", true, 0, 2).answers(7, "phrase", true, 0, 0, 0).answers(0, "told", true, 0, 3);
      story.answers(0, "open", true).answers(5, "logs", 2, true);
    }
  }

  /** "The signs of a dispatch that came are spots, two by two": 1 and 12 of them, the first and the last one. */
  private static void twoByTwo() {
    for (int phrases : new int[] {1, 2, 11, 12}) {
      Story story = NEW.on(phrases + " phrases").times(2, "tower", 50, 5);
      for (int i = 0; i < phrases; i++) {
        story.then("write", 0, 91 - i, i, 100 + i).then("type", 100 + i);
      }
      story.then("send", false, 0, false).then("pass", 40).answers(phrases, "told", true, 0, 2);
      for (int i = 0; i < phrases; i++) {
        story.answers(100 + i, "phrase", true, 0, i, 0);
      }
      story.refuses(Story.NO_SUCH, "phrase", true, 0, phrases, 0);
      story.refuses(Story.NO_SUCH, "phrase", true, 0, -1, 0);
    }
  }

  /** "Returns the phrase; -1 if there is none at its spot": by each book, as it is now; a misread spot, too. */
  private static void noneAtItsSpot() {
    Story story = THREE.on("by books").then("write", 1, 1, 2, 0).then("type", 7).then("send", false, 0, false);
    story.then("pass", 9).answers(7, "phrase", true, 0, 0, 0).answers(0, "phrase", true, 0, 0, 1);
    story.answers(-1, "phrase", true, 0, 0, 2).then("write", 0, 1, 2, -1).answers(-1, "phrase", true, 0, 0, 0);
    Story misread = THREE.on("misread").then("tire", 2, 1009).then("type", 7).then("send", false, 0, false);
    misread.then("pass", 9).answers(-1, "phrase", true, 0, 0, 0).then("write", 0, 0, 3, 5);
    misread.answers(5, "phrase", true, 0, 0, 0);
  }

  /** "0 the minute of its END, 1 that of its BEGIN": by the last light of one day, and by the first of the next. */
  private static void toldMinutes() {
    Story story = THREE.on("across the night").then("type", 7).until(1075).then("send", false, 0, true).until(1079);
    story.answers(0, "came", true).answers(1, "open", true).until(1799).answers(1, "open", true).until(1803);
    story.answers(1802, "told", true, 0, 0).answers(1079, "told", true, 0, 1).answers(1, "told", true, 0, 3);
  }

  /** "0 for the next one", "-1 if there are not so many": the last that is kept, and the one behind it. */
  private static void keptPlaces() {
    for (int kept : new int[] {0, 1, 2, 10, 199, 200}) {
      Story story = NEW.on(kept + " kept").times(2, "tower", 50, 5);
      for (int i = 0; i < kept; i++) {
        story.then("mark", 0, true, i == kept - 1);
      }
      story.answers(-1, "keeps", 0, true, kept).answers(-1, "keeps", 0, false, 0);
      if (kept > 0) {
        story.answers(94, "keeps", 0, true, kept - 1).answers(kept == 1 ? 94 : 95, "keeps", 0, true, 0);
        story.then("pass", 1).answers(-1, "keeps", 0, true, kept - 1);
      }
    }
  }

  /** "0 for the first one", "-1 if there are not so many": the last entry, and the one behind it, for each of what. */
  private static void loggedEntries() {
    for (int logged : new int[] {0, 1, 2, 200}) {
      Story story = NEW.on(logged + " logged").times(2, "tower", 50, 5).times(logged, "mark", 1, false, true);
      story.answers(logged, "logs", 1, false);
      for (int what = 0; what < 3; what++) {
        story.answers(-1, "log", 1, false, logged, what);
        if (logged > 0) {
          Object due = what == 0 ? 360 : what == 1 ? 94 : 1;
          story.answers(due, "log", 1, false, logged - 1, what).answers(due, "log", 1, false, 0, what);
        }
      }
    }
  }

  /** "the first place, from 0, at which the signs of both are unlike": each place in turn, by one misread sign. */
  private static void differsAtEachPlace() {
    for (int misread = 1; misread <= 3; misread++) {
      Story story = THREE.on("misread at " + misread).then("type", 7).then("send", false, 0, false);
      // The tower 2 reads the place p at 363 + p.
      story.until(362 + misread).then("tire", 2, 1009).then("pass", 1).then("tire", 2, 0).then("pass", 20);
      boolean isMark = misread == 3;
      story.answers(isMark ? -1 : misread, "differs", 1, 2, true).answers(isMark ? -1 : misread, "differs", 2, 1, true);
      story.answers(-1, "differs", 1, 2, false).answers(-1, "differs", 2, 2, true);
    }
    // The first one of several, and the place 0.
    Story story = THREE.on("all misread").then("type", 7).then("tire", 2, 1009).then("send", false, 0, false);
    story.then("pass", 3).answers(-1, "differs", 1, 2, true).then("pass", 1).answers(1, "differs", 1, 2, true);
    story.then("pass", 9).answers(1, "differs", 1, 2, true);
    Story first = THREE.on("a mark first").then("type", 7).then("mark", 1, true, false).then("send", false, 0, false);
    first.then("pass", 9).answers(0, "differs", 1, 2, true).answers(0, "differs", 2, 1, true);
  }

  /** "own ones left out": ahead, amid and behind, in the one log or in the other; places count what is left. */
  private static void differsWithOwn() {
    for (int minutes = 0; minutes <= 7; minutes++) {
      Story story = NEW.on("an own one behind " + minutes).times(4, "tower", 50, 5).then("write", 0, 1, 2, 7);
      story.then("type", 7).then("send", false, 0, false).times(minutes, "pass", 1).then("mark", 2, true, false);
      story.then("pass", 20).answers(5, "logs", 2, true).answers(4, "logs", 1, true).answers(5, "logs", 3, true);
      story.answers(-1, "differs", 1, 2, true).answers(-1, "differs", 2, 1, true);
      // The tower 3 took the mark as it took the rest: there it counts.
      int place = Math.max(0, Math.min(4, minutes - 2));
      story.answers(95, "log", 3, true, place, 1).answers(place == 4 ? -1 : place, "differs", 1, 3, true);
      story.answers(place == 4 ? -1 : place, "differs", 3, 2, true);
    }
    Story own = NEW.on("own ones alone").times(3, "tower", 50, 5).then("mark", 0, true, true)
        .then("mark", 1, true, false);
    own.answers(-1, "differs", 0, 1, true).answers(-1, "differs", 1, 0, true);
  }

  /** "-1 if there is none that both have": the place 299 of two full logs is the last one that both have. */
  private static void differsWhereFull() {
    Story story = THREE.on("full").times(12, "type", 7);
    for (int i = 0; i < 11; i++) {
      story.then("send", false, 0, false).then("pass", 26);
    }
    story.then("send", false, 0, false);
    story.on("alike").then("pass", 60).answers(300, "logs", 1, true).answers(-1, "differs", 1, 2, true);
    for (int misread : new int[] {298, 299, 300}) {
      // Of 26 signs each these places are signs of the 12th dispatch; the tower 2 reads the place p at 363 + p.
      Story tired = story.on("misread at " + misread).until(362 + misread).then("tire", 2, 1009).then("pass", 1);
      tired.then("tire", 2, 0).then("pass", 40).answers(300, "logs", 1, true).answers(300, "logs", 2, true);
      tired.answers(misread < 300 ? misread : -1, "differs", 1, 2, true).answers(12, "came", true);
    }
  }
}
