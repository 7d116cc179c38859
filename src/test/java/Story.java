import java.lang.reflect.InvocationTargetException;
import java.lang.reflect.Method;
import java.lang.reflect.Modifier;
import java.util.ArrayList;
import java.util.Arrays;
import java.util.HashMap;
import java.util.List;
import java.util.Map;
import java.util.Set;

/**
 * Calls on a new object, one behind the other, that can be had again on a fresh object as often as a test asks. So
 * what a call changes is told by comparing all that two objects answer, of which one has heard it, within the 512
 * calls that an object is promised for.
 */
final class Story {
  static final String NO_SUCH = "IndexOutOfBoundsException";
  static final String OUT_OF_RANGE = "IllegalArgumentException";
  static final String NOT_NOW = "IllegalStateException";
  /** Stands for the argument that a range is tried at. */
  static final Object AT = new Object();

  private static final Set<String> REFUSALS = Set.of(NO_SUCH, OUT_OF_RANGE, NOT_NOW);
  private static final int MOST_CALLS = 512;
  private static final int CHUNK = 90;
  private static final Map<String, Method> FACE = face();

  private final String name;
  private final List<Call> calls = new ArrayList<>();
  // What the object of this story answers to all that may be asked of it; worked out when it is first needed.
  private List<String> view;

  Story(String name) {
    this.name = name;
  }

  private record Call(String method, Object[] args, boolean isRefused) {
    String text() {
      String all = Arrays.toString(args);
      return method + "(" + all.substring(1, all.length() - 1) + ")";
    }
  }

  // ---- telling a story

  /** Another story that begins as this one. */
  Story on(String other) {
    Story story = new Story(name + ", " + other);
    story.calls.addAll(calls);
    return story;
  }

  Story then(String method, Object... args) {
    return and(new Call(method, args, false));
  }

  /** A call that is refused, as a part of the story. */
  Story refused(String method, Object... args) {
    return and(new Call(method, args, true));
  }

  Story times(int times, String method, Object... args) {
    for (int i = 0; i < times; i++) {
      then(method, args);
    }
    return this;
  }

  /** Lets minutes pass until it is so late. */
  Story until(int minute) {
    int now = 360;
    for (Call call : calls) {
      now += call.method.equals("pass") && !call.isRefused ? (Integer) call.args[0] : 0;
    }
    for (; now < minute; now += 200) {
      then("pass", Math.min(200, minute - now));
    }
    return this;
  }

  private Story and(Call call) {
    view = null;
    calls.add(call);
    return this;
  }

  // ---- what a call behind it answers

  /** The answer, or the exception's name. */
  String answer(String method, Object... args) {
    return new Teller(null).ask(method, args);
  }

  Story answers(Object due, String method, Object... args) {
    String got = answer(method, args);
    if (!got.equals(String.valueOf(due))) {
      Checks.fail(name + ": " + new Call(method, args, false).text() + " answered " + got + ", due is " + due);
    }
    return this;
  }

  /** A call that is refused with the exception that is due, and that changes nothing. */
  void refuses(String due, String method, Object... args) {
    answers(due, method, args);
    changesNothing(new Call(method, args, true));
  }

  /** A call that is answered, and leaves all other answers as they were. */
  void changesNothing(String method, Object... args) {
    changesNothing(new Call(method, args, false));
  }

  /** The least and the most value of an argument are taken, and the next ones outside are refused. */
  void range(String refusal, int least, int most, String method, Object... args) {
    for (int value : new int[] {least, most}) {
      String got = answer(method, with(args, value));
      if (REFUSALS.contains(got)) {
        Checks.fail(name + ": " + new Call(method, with(args, value), false).text() + " answered " + got);
      }
    }
    for (int value : new int[] {least - 1, most + 1, Integer.MIN_VALUE, Integer.MAX_VALUE}) {
      refuses(refusal, method, with(args, value));
    }
  }

  /** Two stories that lead to the same. */
  void endsAs(Story other) {
    sameView(viewBehind(null), other.viewBehind(null), name + " and " + other.name);
  }

  private static Object[] with(Object[] args, int value) {
    Object[] whole = args.clone();
    for (int i = 0; i < whole.length; i++) {
      whole[i] = whole[i] == AT ? value : whole[i];
    }
    return whole;
  }

  private void changesNothing(Call call) {
    if (view == null) {
      view = viewBehind(null);
    }
    String when = name + ": behind " + call.text();
    sameView(view, viewBehind(call), when);
    if (call.method.equals("write")) {
      sameView(written(null, spotsOf(call)), written(call, spotsOf(call)), when);
    }
  }

  private static void sameView(List<String> due, List<String> got, String when) {
    for (int i = 0; i < Math.max(due.size(), got.size()); i++) {
      String one = i < due.size() ? due.get(i) : "nothing";
      String other = i < got.size() ? got.get(i) : "nothing";
      if (!one.equals(other)) {
        Checks.fail(when + ": " + other + ", due is " + one);
        return;
      }
    }
  }

  private static Map<String, Method> face() {
    Map<String, Method> face = new HashMap<>();
    for (Method method : ArmtowerLine.class.getDeclaredMethods()) {
      if (Modifier.isPublic(method.getModifiers())) {
        face.put(method.getName(), method);
      }
    }
    return face;
  }

  // ---- all that an object answers behind one more call, or none; each group of questions asked of a fresh object

  private List<String> viewBehind(Call last) {
    Teller plain = new Teller(last);
    int towers = plain.number("towers");
    plain.general(towers);
    plain.tapes();
    List<String> all = new ArrayList<>(plain.told);
    for (int tower = 0; tower < towers; tower++) {
      all.addAll(keptAndLogged(last, tower, true));
      all.addAll(keptAndLogged(last, tower, false));
    }
    all.addAll(written(last, spots()));
    for (int book = 0; book < 3; book++) {
      all.addAll(came(last, true, book));
      all.addAll(came(last, false, book));
      all.addAll(new Teller(last).sent(book, towers));
    }
    all.addAll(new Teller(last).differences(towers));
    all.addAll(new Teller(last).land(towers));
    all.addAll(new Teller(last).room(towers));
    all.addAll(new Teller(last).later(towers));
    return all;
  }

  private List<String> keptAndLogged(Call last, int tower, boolean up) {
    Teller keeping = new Teller(last);
    List<String> all = keeping.kept(tower, up);
    int entries = keeping.number("logs", tower, up);
    for (int from = 0; from <= entries; from += CHUNK) {
      all.addAll(new Teller(last).logged(tower, up, from, Math.min(entries, from + CHUNK)));
    }
    return all;
  }

  private List<String> came(Call last, boolean up, int book) {
    Teller telling = new Teller(last);
    int came = telling.number("came", up);
    for (int dispatch = 0; dispatch < came; dispatch++) {
      for (int what = 0; what < 4 && book == 0; what++) {
        telling.ask("told", up, dispatch, what);
      }
      int spots = telling.number("told", up, dispatch, 2);
      for (int place = 0; place < spots; place++) {
        telling.ask("phrase", up, dispatch, place, book);
      }
    }
    return telling.told;
  }

  /** What stands at spots, in all books. */
  private List<String> written(Call last, List<int[]> spots) {
    List<String> all = new ArrayList<>();
    for (int from = 0; from < spots.size(); from += CHUNK) {
      Teller reading = new Teller(last);
      for (int[] spot : spots.subList(from, Math.min(spots.size(), from + CHUNK))) {
        for (int book = 0; book < 3; book++) {
          reading.ask("write", book, spot[0], spot[1], -1);
        }
      }
      all.addAll(reading.told);
    }
    return all;
  }

  /** The spots that the story names, and some at the edges of a page. */
  private List<int[]> spots() {
    List<int[]> spots = new ArrayList<>();
    for (int page : new int[] {0, 1, 2, 91}) {
      spots.add(new int[] {page, 0});
      spots.add(new int[] {page, 91});
    }
    for (Call call : calls) {
      if (call.method.equals("write")) {
        spots.addAll(spotsOf(call));
      }
    }
    return spots;
  }

  private static List<int[]> spotsOf(Call write) {
    int page = (Integer) write.args[1];
    int line = (Integer) write.args[2];
    return page < 0 || page > 91 || line < 0 || line > 91 ? List.of() : List.of(new int[] {page, line});
  }

  /** A fresh object at the end of the story, which is asked and whose answers are kept. */
  private final class Teller {
    private final ArmtowerLine x = new ArmtowerLine();
    private final List<String> told = new ArrayList<>();
    private int heard;

    Teller(Call last) {
      for (Call call : calls) {
        follow(call);
      }
      if (last != null) {
        follow(last);
      }
    }

    private void follow(Call call) {
      String answer = hear(call);
      if (REFUSALS.contains(answer) != call.isRefused) {
        Checks.fail(name + ": on the way " + call.text() + " answered " + answer);
      }
    }

    private String hear(Call call) {
      heard++;
      if (heard == MOST_CALLS + 1) {
        Checks.fail(name + ": more than 512 calls");
      }
      try {
        return String.valueOf(FACE.get(call.method).invoke(x, call.args));
      } catch (InvocationTargetException e) {
        String thrown = e.getCause().getClass().getSimpleName();
        if (!REFUSALS.contains(thrown)) {
          Checks.fail(name + ": " + call.text() + " threw " + thrown);
        }
        return thrown;
      } catch (IllegalAccessException e) {
        throw new IllegalStateException(e);
      }
    }

    private String ask(String method, Object... args) {
      Call call = new Call(method, args, false);
      String answer = hear(call);
      told.add(call.text() + " answered " + answer);
      return answer;
    }

    private int number(String method, Object... args) {
      String answer = ask(method, args);
      return REFUSALS.contains(answer) ? 0 : Integer.parseInt(answer);
    }

    private void general(int towers) {
      ask("minute");
      for (int tower = 0; tower < towers; tower++) {
        shown(tower);
        ask("logs", tower, true);
        ask("logs", tower, false);
      }
      for (int stretch = 0; stretch + 1 < towers; stretch++) {
        ask("sees", stretch);
      }
      ask("comes", 9);
      ask("comesAnew", 9);
      for (int spy = 0; spy < 6; spy++) {
        ask("seen", spy);
        for (int book = 0; book < 3; book++) {
          ask("tries", spy, book);
        }
      }
    }

    private void shown(int tower) {
      ask("shows", tower, true);
      ask("shows", tower, false);
    }

    private void tapes() {
      ask("came", true);
      ask("came", false);
      ask("open", true);
      ask("open", false);
    }

    private List<String> kept(int tower, boolean up) {
      for (int place = 0; place < 201 && !ask("keeps", tower, up, place).equals("-1"); place++) {
        continue;
      }
      return told;
    }

    private List<String> logged(int tower, boolean up, int from, int to) {
      for (int entry = from; entry <= to; entry++) {
        for (int what = 0; what < 3; what++) {
          ask("log", tower, up, entry, what);
        }
      }
      return told;
    }

    private List<String> differences(int towers) {
      for (int tower = 1; tower < towers; tower++) {
        ask("differs", tower - 1, tower, true);
        ask("differs", tower - 1, tower, false);
      }
      return told;
    }

    /** The text is told by what is sent, and so is which phrases a book has. */
    private List<String> sent(int book, int towers) {
      ask("send", false, book, false);
      ask("send", false, book, true);
      for (int place = 0; place < 60 && towers > 0; place++) {
        ask("keeps", 0, true, place);
      }
      ask("clear");
      ask("type", 7);
      ask("send", true, book, true);
      return told;
    }

    private List<String> land(int towers) {
      for (int stretch = 0; stretch + 1 < towers; stretch++) {
        ask("hill", stretch, 99, 1);
        ask("air", stretch, 0);
        ask("sees", stretch);
      }
      for (int tower = 0; tower < towers; tower++) {
        ask("tire", tower, 0);
      }
      ask("seed", 0);
      return told;
    }

    private List<String> room(int towers) {
      ask("tower", 5, 5);
      for (int i = 0; i < 7 && towers > 0; i++) {
        ask("spy", 0);
      }
      for (int i = 0; i < 13; i++) {
        ask("type", i);
      }
      ask("clear");
      return told;
    }

    private List<String> later(int towers) {
      for (int i = 0; i < 4; i++) {
        ask("pass", 1 + 9 * i);
        for (int tower = 0; tower < towers; tower++) {
          shown(tower);
        }
        tapes();
      }
      general(towers);
      return told;
    }
  }
}
