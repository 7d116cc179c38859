/**
 * DOC.md, Terms, "Spies", and the promises 12 and 26 to 29: each sentence that names an edge, quoted at its test.
 *
 * "by day": no calls lead to a sign below 92 that is newly shown by night. Nothing is taken then, so that a tower shows
 * a new one only if it showed none and kept none ahead of the calls: the first of a dispatch, or a mark. (The tests
 * `lastLight` and `byNight` come as near to it as may be.)
 */
public final class SpyEdgesTest {
  private static final String NO_SUCH = Story.NO_SUCH;
  private static final String NOT_NOW = Story.NOT_NOW;
  private static final Story NEW = new Story("a new object");
  private static final Story THREE = NEW.on("three towers").times(3, "tower", 50, 5).then("write", 0, 1, 2, 7);

  public static void main(String[] args) {
    atMostSix();
    notTheLastOne();
    lastOneNoLonger();
    fromTheCallOn();
    belowMarks();
    upTheLine();
    firstTwoHundred();
    firstTwoHundredOfEach();
    lastLight();
    byNight();
    unlessFoggy();
    fogOfItsOwnStretch();
    twoByTwo();
    spotsOfItNow();
    minutesOfSigns();
    asIfNothingWereOnTheLine();
    Checks.finish("SpyEdgesTest");
  }

  /** "Spies are numbered from 0, at most 6": at one tower, or at several. */
  private static void atMostSix() {
    Story story = THREE.on("spies");
    for (int spies = 0; spies < 6; spies++) {
      story.answers(NO_SUCH, "seen", spies).answers(NO_SUCH, "tries", spies, 0);
      story.answers(spies, "spy", spies / 3).then("spy", spies / 3).answers(0, "seen", spies)
          .answers(0, "tries", spies, 2);
    }
    story.refuses(NOT_NOW, "spy", 0);
    story.refuses(NOT_NOW, "spy", 1);
    story.refuses(NO_SUCH, "seen", 6);
    story.refuses(NO_SUCH, "tries", 6, 0);
  }

  /** "a tower, which is not the last one": of one tower, the only one is. */
  private static void notTheLastOne() {
    NEW.on("one tower").then("tower", 50, 5).refuses(NOT_NOW, "spy", 0);
    for (int towers = 2; towers <= 12; towers++) {
      Story story = NEW.on(towers + " towers").times(towers, "tower", 50, 5);
      story.answers(0, "spy", 0).answers(0, "spy", towers - 2).refuses(NOT_NOW, "spy", towers - 1);
    }
    // What is refused is no spy: the next one has its number.
    THREE.on("refused").refused("spy", 2).refused("spy", 3).answers(0, "spy", 1);
  }

  /** The last one is told as the line stands: a tower that is built later makes it another. */
  private static void lastOneNoLonger() {
    Story story = NEW.on("two towers").times(2, "tower", 50, 5).then("spy", 0).answers(NOT_NOW, "spy", 1);
    story.then("tower", 50, 5).answers(1, "spy", 1).answers(NOT_NOW, "spy", 2);
    story.then("write", 0, 1, 2, 7).then("type", 7).then("send", false, 0, false).then("pass", 9).answers(2, "seen", 0);
  }

  /** "what was shown there ahead of the call, in that minute, too, is not seen": each minute of a dispatch. */
  private static void fromTheCallOn() {
    int[] due = {2, 2, 1, 0, 0, 0};
    for (int minutes = 0; minutes < due.length; minutes++) {
      Story story = THREE.on("a spy behind " + minutes).then("type", 7).then("send", false, 0, false);
      story.times(minutes, "pass", 1).then("spy", 0).answers(0, "seen", 0).then("pass", 20);
      story.answers(due[minutes], "seen", 0);
    }
    // It goes on being shown in fog, which is not newly.
    Story fog = THREE.on("held up").then("type", 7).then("send", false, 0, false).then("pass", 2).then("air", 0, 2);
    fog.answers(1, "shows", 0, true).then("pass", 5).then("spy", 0).then("pass", 5).then("air", 0, 0);
    fog.answers(1, "shows", 0, true).answers(0, "seen", 0).then("pass", 1).answers(1, "seen", 0);
  }

  /** "Each sign below 92": 91 is seen; BEGIN, END, ERROR, WAIT and URGENT are not. */
  private static void belowMarks() {
    Story story = NEW.on("91").times(2, "tower", 50, 5).then("write", 0, 91, 0, 7).then("type", 7).then("spy", 0);
    story.then("send", false, 0, true).then("mark", 0, true, true).then("mark", 0, true, false);
    int[] due = {0, 0, 1, 2, 2, 2, 2, 2};
    for (int minute = 0; minute < due.length; minute++) {
      story.then("pass", 1).answers(due[minute], "seen", 0);
    }
    story.answers(1, "tries", 0, 0);
  }

  /** "newly shown there up the line": not what the tower shows down, nor what another tower shows. */
  private static void upTheLine() {
    Story story = THREE.on("both ways").then("type", 7).then("spy", 0).then("spy", 1).then("send", true, 0, false);
    story.then("pass", 9).answers(1, "came", false).answers(0, "seen", 0).answers(0, "seen", 1);
    story.then("send", false, 0, false).then("pass", 3).answers(2, "seen", 0).answers(1, "seen", 1);
    story.then("pass", 1).answers(2, "seen", 0).answers(2, "seen", 1).then("pass", 5).answers(2, "seen", 1);
    // A misread sign is shown as it was read.
    Story misread = THREE.on("misread").then("type", 7).then("tire", 1, 1009).then("spy", 0).then("spy", 1);
    misread.then("send", false, 0, false).then("pass", 9).answers(1, "tries", 0, 0).answers(0, "tries", 1, 0);
    misread.then("write", 0, 0, 3, 9).answers(1, "tries", 1, 0);
  }

  /** "of the first 200": the 199th, the 200th, and no 201st. */
  private static void firstTwoHundred() {
    Story story = NEW.on("two hundred").times(2, "tower", 50, 5).then("write", 0, 1, 2, 7).then("write", 0, 3, 4, 8);
    story.times(12, "type", 7).then("spy", 0);
    for (int i = 0; i < 8; i++) {
      story.then("send", false, 0, false).then("pass", 27);
    }
    story.answers(192, "seen", 0).then("clear").times(12, "type", 8).then("send", false, 0, false).then("pass", 8);
    story.answers(199, "seen", 0).answers(99, "tries", 0, 0).then("pass", 1);
    story.answers(200, "seen", 0).answers(100, "tries", 0, 0).then("pass", 1).answers(200, "seen", 0).then("pass", 50);
    // The first 200 stay: 192 and 8 of the last dispatch.
    story.answers(200, "seen", 0).answers(100, "tries", 0, 0).then("write", 0, 3, 4, -1).answers(96, "tries", 0, 0);
    story.then("write", 0, 1, 2, -1).answers(0, "tries", 0, 0);
  }

  /** "of the first 200": those that were seen since the spy came, for each spy. */
  private static void firstTwoHundredOfEach() {
    Story story = NEW.on("an early and a late spy").times(2, "tower", 50, 5).then("write", 0, 1, 2, 7);
    story.times(12, "type", 7).then("spy", 0);
    for (int i = 0; i < 6; i++) {
      story.then("send", false, 0, false).then("pass", 27);
    }
    story.then("spy", 0);
    for (int i = 0; i < 9; i++) {
      story.then("send", false, 0, false).then("pass", 27);
      story.answers(Math.min(200, 144 + 24 * (i + 1)), "seen", 0).answers(Math.min(200, 24 * (i + 1)), "seen", 1);
    }
    // What is not seen, as fog lies there, does not count for the 200.
    Story fog = NEW.on("fog for a while").times(3, "tower", 50, 5).then("write", 0, 1, 2, 7).then("spy", 1);
    fog.times(12, "type", 7).then("air", 1, 2).then("send", false, 0, false).then("pass", 30).answers(0, "seen", 0);
    fog.then("air", 1, 0);
    for (int i = 0; i < 8; i++) {
      fog.then("send", false, 0, false).then("pass", 27);
    }
    fog.then("pass", 30).answers(200, "seen", 0);
  }

  /** "by day": what is newly shown at 1079 is seen; it is shown all night; the next one is seen at 1800. */
  private static void lastLight() {
    for (int sent = 1074; sent <= 1079; sent++) {
      Story story = THREE.on("sent at " + sent).then("type", 7).then("spy", 0).until(sent)
          .then("send", false, 0, false);
      int seen = Math.max(0, Math.min(2, 1079 - sent - 1));
      story.until(1079).answers(seen, "seen", 0).until(1080).answers(seen, "seen", 0);
      story.until(1799).answers(seen, "seen", 0).until(1800);
      // The first sign of a dispatch that is sent at 1079 is shown by night, and taken at dawn.
      story.answers(Math.min(2, seen + 1), "seen", 0).until(1810).answers(2, "seen", 0).answers(1, "tries", 0, 0);
    }
  }

  /** The same of a dispatch that is sent by night, at 1080, and at the last minute of it. */
  private static void byNight() {
    for (int sent : new int[] {1080, 1500, 1798, 1799}) {
      Story story = THREE.on("sent at " + sent).then("type", 7).then("spy", 0).until(sent).then("send", false, 0, true);
      story.until(sent + 1).answers(96, "shows", 0, true).answers(0, "seen", 0).until(Math.max(sent + 1, 1800));
      story.answers(0, "seen", 0).until(1810).answers(2, "seen", 0);
    }
  }

  /** "unless the air of the stretch is foggy": clear or hazy, at any length, and with a hill, it is seen. */
  private static void unlessFoggy() {
    for (int length : new int[] {1, 10, 11, 20}) {
      for (int air = 0; air <= 2; air++) {
        Story story = emptyTower(length).then("air", 1, air).then("pass", 1).answers(1, "shows", 1, true);
        story.answers(air == 2 ? 0 : 1, "seen", 0).then("air", 1, 0).then("pass", 9)
            .answers(air == 2 ? 1 : 2, "seen", 0);
      }
    }
    Story hill = emptyTower(5).then("hill", 1, 99, 1).then("pass", 1).answers(1, "seen", 0).answers(false, "sees", 1);
    hill.then("pass", 9).answers(1, "seen", 0).answers(1, "shows", 1, true);
  }

  /** A spy at the tower 1, which showed BEGIN, and shows none now, as fog kept the next sign from it for a minute. */
  private static Story emptyTower(int length) {
    Story story = NEW.on(length + " ahead").times(2, "tower", 50, 5).then("tower", 50, length)
        .then("write", 0, 1, 2, 7);
    story.then("type", 7).then("spy", 1).then("send", false, 0, false).then("pass", 2).then("air", 0, 2)
        .then("pass", 1);
    return story.answers(-1, "shows", 1, true).answers(1, "shows", 0, true).then("air", 0, 0);
  }

  /** The stretch is the one ahead of the tower, up the line; that behind it may be foggy, and that beyond it, too. */
  private static void fogOfItsOwnStretch() {
    Story behind = THREE.on("fog behind it").then("type", 7).then("spy", 1).then("send", false, 0, false)
        .then("pass", 2);
    // The tower 1 takes the 1 and the 2 while fog lies ahead; then fog lies behind it, and what it keeps is seen.
    behind.then("air", 1, 2).then("pass", 4).answers(92, "shows", 1, true).answers(0, "seen", 0);
    behind.then("air", 1, 0).then("air", 0, 2).then("pass", 2).answers(2, "seen", 0).answers(2, "shows", 1, true);
    Story beyond = THREE.on("fog beyond it").then("type", 7).then("spy", 0).then("send", false, 0, false);
    beyond.then("pass", 1).answers(92, "shows", 0, true).then("air", 1, 2).then("pass", 2).answers(2, "seen", 0);
  }

  /** "of the signs that were seen, two by two from the first one on": an even and an odd count, none, one. */
  private static void twoByTwo() {
    Story story = NEW.on("pairs").times(2, "tower", 50, 5).then("write", 0, 1, 2, 7).then("write", 1, 2, 1, 7);
    story.then("write", 2, 1, 0, 7).then("write", 2, 2, 0, 7).then("write", 2, 0, 0, 7);
    story.then("spy", 0).times(3, "type", 7).then("send", false, 0, false).answers(0, "tries", 0, 0).then("pass", 1);
    for (int seen = 0; seen <= 6; seen++) {
      story.answers(seen, "seen", 0).answers(seen / 2, "tries", 0, 0).answers(0, "tries", 0, 1).then("pass", 1);
      // One alone is no spot, not with a line of 0, either.
      story.answers(0, "tries", 0, 2);
    }
    // A spy that came behind the first sign pairs the others: 2 1, 2 1, and a 2 alone.
    Story late = NEW.on("late").times(2, "tower", 50, 5).then("write", 0, 1, 2, 7).then("write", 1, 2, 1, 7);
    late.times(3, "type", 7).then("send", false, 0, false).then("pass", 2).then("spy", 0).then("pass", 20);
    late.answers(5, "seen", 0).answers(0, "tries", 0, 0).answers(2, "tries", 0, 1);
  }

  /** "how many are spots of it": whatever the phrase, by the book as it is now; a spot counts each time. */
  private static void spotsOfItNow() {
    Story story = NEW.on("spots").times(2, "tower", 50, 5).then("write", 0, 91, 91, 7).then("write", 0, 0, 0, 8);
    story.then("spy", 0).then("type", 7).then("type", 8).then("type", 7).then("send", false, 0, false).then("pass", 20);
    story.answers(3, "tries", 0, 0).answers(0, "tries", 0, 1).answers(0, "tries", 0, 2);
    story.then("write", 2, 0, 0, 0).answers(1, "tries", 0, 2).then("write", 0, 91, 91, 0).answers(3, "tries", 0, 0);
    story.then("write", 0, 91, 91, -1).answers(1, "tries", 0, 0).then("write", 0, 0, 0, -1).answers(0, "tries", 0, 0);
  }

  /** Promises 28 and 29: "the last one of so many signs": 1 to 99 on 2 to 12 towers, as marks on such a line come. */
  private static void minutesOfSigns() {
    for (int towers = 2; towers <= 12; towers++) {
      Story line = NEW.on(towers + " towers").times(towers, "tower", 50, 5);
      for (int signs : new int[] {1, 2, 9, 10, 11, 12, 98, 99}) {
        Story marked = line.on(signs + " marks").times(signs, "mark", 0, true, false).then("pass", 200);
        int came = Integer.parseInt(marked.answer("log", towers - 1, true, signs - 1, 0)) - 360;
        line.answers(came, "comes", signs).answers(came, "comesAnew", signs);
      }
    }
  }

  /** "if nothing were on the line, and all stretches could be seen along": whatever is, and by night. */
  private static void asIfNothingWereOnTheLine() {
    Story story = THREE.on("full").times(12, "type", 7).times(5, "send", false, 0, false)
        .times(9, "mark", 1, true, true);
    story.then("hill", 0, 99, 1).then("air", 1, 2).then("tire", 1, 1009).until(1100);
    for (int signs : new int[] {1, 50, 99}) {
      story.answers(signs + 2, "comes", signs).answers(signs + 2, "comesAnew", signs);
      story.changesNothing("comes", signs);
      story.changesNothing("comesAnew", signs);
    }
  }
}
