import java.util.ArrayList;
import java.util.List;
import java.util.Random;
import java.util.TreeMap;

/**
 * Long runs of calls, right and wrong ones mixed, on fresh objects, each answer compared with that of a model
 * which keeps all that ever happened and works each answer out anew from that.
 */
public final class ModelTest {
  private static final int RUNS = 600;
  private static final int CALLS = 512;
  private static final int NO_SUCH = -1001;
  private static final int OUT_OF_RANGE = -1002;
  private static final int NOT_NOW = -1003;

  public static void main(String[] args) {
    for (int run = 0; run < RUNS; run++) {
      if (!new Run(run).passes()) {
        Checks.fail("the model's run " + run + " is wrong");
        break;
      }
    }
    Checks.finish("ModelTest");
  }

  /** A run draws its calls from a fixed seed, so that each one can be had again. */
  private static final class Run {
    private final int number;
    private final Random random;
    private final ArmtowerLine real = new ArmtowerLine();
    private final Model model = new Model();
    private final List<String> calls = new ArrayList<>();
    private final int wrongPercent;
    private final int longPass;

    Run(int number) {
      this.number = number;
      random = new Random(number);
      wrongPercent = number % 4;
      longPass = number % 3 == 0 ? 200 : 12;
    }

    boolean passes() {
      int towers = number % 10 == 0 ? random.nextInt(13) : 2 + random.nextInt(4);
      for (int i = 0; i < towers && calls.size() < CALLS; i++) {
        // Most lines stand level, as else hardly anything would come to the end.
        int height = number % 2 == 0 ? 50 : random.nextInt(100);
        if (!compare("tower", height, 1 + random.nextInt(20))) {
          return false;
        }
      }
      for (int i = 0; i < 5; i++) {
        if (!compare("write", i % 2, random.nextInt(92), random.nextInt(92), i)) {
          return false;
        }
      }
      while (calls.size() < CALLS) {
        if (!step()) {
          return false;
        }
      }
      return true;
    }

    private boolean step() {
      switch (random.nextInt(34)) {
        case 0: return compare("hill", stretch(), below(60), 1 + below(12));
        case 1: return compare("air", stretch(), below(6) > 2 ? 0 : below(3));
        case 2: return compare("tire", tower(), below(2) * below(1010));
        case 3: return compare("seed", below(10000));
        case 4: return compare("write", below(3), below(92), below(92), below(8) - 1);
        case 5: return compare("type", below(6));
        case 6: return compare("type", below(4));
        case 7: return below(4) == 0 ? compare("clear") : true;
        case 8: return compare("send", below(2), below(2), 0);
        case 9: return compare("send", below(2), below(2), 1);
        case 10: return below(2) == 0 ? compare("mark", tower(), below(2), below(2)) : true;
        case 11: return compare("spy", tower());
        case 12: case 13: case 14: return compare("pass", 1 + below(4));
        case 15: return compare("pass", 1 + below(longPass));
        case 16: return compare("minute") && compare("towers");
        case 17: return compare("sees", stretch());
        case 18: return compare("shows", tower(), below(2));
        case 19: return compare("keeps", tower(), below(2), below(12));
        case 20: return compare("keeps", tower(), below(2), below(200));
        case 21: return compare("logs", tower(), below(2));
        case 22: return compare("log", tower(), below(2), below(20), below(3));
        case 23: return compare("log", tower(), below(2), below(301), below(3));
        case 24: return compare("differs", tower(), tower(), below(2));
        case 25: return compare("came", below(2));
        case 26: return compare("told", below(2), below(6), below(4));
        case 27: return compare("told", below(2), below(41), below(4));
        case 28: return compare("phrase", below(2), below(6), below(3), below(2));
        case 29: return compare("phrase", below(2), below(41), below(12), below(3));
        case 30: return compare("open", below(2));
        case 31: return compare("seen", below(3));
        case 32: return compare("tries", below(3), below(3));
        default: return compare(below(2) == 0 ? "comes" : "comesAnew", 1 + below(99));
      }
    }

    private int below(int bound) {
      return random.nextInt(bound);
    }

    private int tower() {
      return below(Math.max(1, model.towers.size()));
    }

    private int stretch() {
      return below(Math.max(1, model.towers.size() - 1));
    }

    private boolean compare(String name, int... right) {
      int[] a = right.clone();
      for (int i = 0; i < a.length; i++) {
        boolean isWay = isBoolean(name, i);
        if (!isWay && below(100) < wrongPercent) {
          int[] wrong = {-1, -2, a[i] + 1, 12, 92, 100, 1010, 10000, 201, Integer.MAX_VALUE, Integer.MIN_VALUE};
          a[i] = wrong[below(wrong.length)];
        }
      }
      StringBuilder text = new StringBuilder(name).append('(');
      for (int i = 0; i < a.length; i++) {
        text.append(i == 0 ? "" : ", ").append(isBoolean(name, i) ? String.valueOf(a[i] == 1) : String.valueOf(a[i]));
      }
      calls.add(text.append(')').toString());
      int due = model.answer(name, a);
      int got = ask(name, a);
      if (got != due) {
        Checks.fail("run " + number + ", call " + calls.size() + ": " + text + " answered " + got + ", due is " + due);
        System.out.println("  all calls: " + calls);
      }
      return got == due;
    }

    private static boolean isBoolean(String name, int i) {
      switch (name) {
        case "send": return i != 1;
        case "mark": return i != 0;
        case "shows": case "keeps": case "logs": case "log": return i == 1;
        case "differs": return i == 2;
        case "came": case "told": case "phrase": case "open": return i == 0;
        default: return false;
      }
    }

    private int ask(String name, int[] a) {
      try {
        return call(name, a);
      } catch (RuntimeException e) {
        return e.getClass() == IndexOutOfBoundsException.class ? NO_SUCH
            : e.getClass() == IllegalArgumentException.class ? OUT_OF_RANGE
            : e.getClass() == IllegalStateException.class ? NOT_NOW : -9999;
      }
    }

    private int call(String name, int[] a) {
      switch (name) {
        case "tower": return real.tower(a[0], a[1]);
        case "hill": return real.hill(a[0], a[1], a[2]);
        case "air": return real.air(a[0], a[1]);
        case "tire": return real.tire(a[0], a[1]);
        case "seed": return real.seed(a[0]);
        case "write": return real.write(a[0], a[1], a[2], a[3]);
        case "type": return real.type(a[0]);
        case "clear": return real.clear();
        case "send": return real.send(a[0] == 1, a[1], a[2] == 1);
        case "mark": return real.mark(a[0], a[1] == 1, a[2] == 1);
        case "spy": return real.spy(a[0]);
        case "pass": return real.pass(a[0]);
        case "minute": return real.minute();
        case "towers": return real.towers();
        case "sees": return real.sees(a[0]) ? 1 : 0;
        case "shows": return real.shows(a[0], a[1] == 1);
        case "keeps": return real.keeps(a[0], a[1] == 1, a[2]);
        case "logs": return real.logs(a[0], a[1] == 1);
        case "log": return real.log(a[0], a[1] == 1, a[2], a[3]);
        case "differs": return real.differs(a[0], a[1], a[2] == 1);
        case "came": return real.came(a[0] == 1);
        case "told": return real.told(a[0] == 1, a[1], a[2]);
        case "phrase": return real.phrase(a[0] == 1, a[1], a[2], a[3]);
        case "open": return real.open(a[0] == 1);
        case "seen": return real.seen(a[0]);
        case "tries": return real.tries(a[0], a[1]);
        case "comes": return real.comes(a[0]);
        default: return real.comesAnew(a[0]);
      }
    }
  }

  /** A sign that is kept: whether an urgent dispatch brought it is remembered with it. */
  private static final class Kept {
    final int sign;
    final boolean urgent;

    Kept(int sign, boolean urgent) {
      this.sign = sign;
      this.urgent = urgent;
    }
  }

  private static final class Station {
    final int height;
    final int far;
    int tired;
    int air;
    final List<int[]> hills = new ArrayList<>();
    final List<List<Kept>> kept = List.of(new ArrayList<>(), new ArrayList<>());
    final int[] shown = {-1, -1};
    final boolean[] taken = new boolean[2];
    final List<List<int[]>> logs = List.of(new ArrayList<>(), new ArrayList<>());

    Station(int height, int far) {
      this.height = height;
      this.far = far;
    }
  }

  private static final class Letter {
    final int begin;
    final boolean urgent;
    int end;
    final List<Integer> signs = new ArrayList<>();

    Letter(int begin, boolean urgent) {
      this.begin = begin;
      this.urgent = urgent;
    }
  }

  /** The document, told a second time: ways are 1 up and 0 down, the air of a stretch stands at its near tower. */
  private static final class Model {
    final List<Station> towers = new ArrayList<>();
    private int now = 360;
    private int seed;
    private boolean used;
    private final List<TreeMap<Integer, Integer>> books = List.of(new TreeMap<>(), new TreeMap<>(), new TreeMap<>());
    private final List<Integer> text = new ArrayList<>();
    private final List<List<int[]>> tapes = List.of(new ArrayList<>(), new ArrayList<>());
    // All that was ever newly shown up the line to be seen: the tower and the sign; and each spy's tower and start.
    private final List<int[]> sights = new ArrayList<>();
    private final List<int[]> spies = new ArrayList<>();

    int answer(String name, int[] a) {
      switch (name) {
        case "tower": return tower(a[0], a[1]);
        case "hill": return hill(a[0], a[1], a[2]);
        case "air": return air(a[0], a[1]);
        case "tire": return tire(a[0], a[1]);
        case "seed": return seed(a[0]);
        case "write": return write(a[0], a[1], a[2], a[3]);
        case "type": return type(a[0]);
        case "clear": return clear();
        case "send": return send(a[0] == 1 ? 0 : 1, a[1], a[2] == 1);
        case "mark": return mark(a[0], a[1], a[2] == 1 ? 94 : 95);
        case "spy": return spy(a[0]);
        case "pass": return pass(a[0]);
        case "minute": return now;
        case "towers": return towers.size();
        case "sees": return noStretch(a[0]) ? NO_SUCH : seesAlong(a[0]) ? 1 : 0;
        case "shows": return noTower(a[0]) ? NO_SUCH : towers.get(a[0]).shown[a[1]];
        case "keeps": return keeps(a[0], a[1], a[2]);
        case "logs": return noTower(a[0]) ? NO_SUCH : towers.get(a[0]).logs.get(a[1]).size();
        case "log": return log(a[0], a[1], a[2], a[3]);
        case "differs": return noTower(a[0]) || noTower(a[1]) ? NO_SUCH : differs(a[0], a[1], a[2]);
        case "came": return letters(a[0], true).size();
        case "told": return told(a[0], a[1], a[2]);
        case "phrase": return phrase(a[0], a[1], a[2], a[3]);
        case "open": return letters(a[0], false).size();
        case "seen": return noIn(spies, a[0]) ? NO_SUCH : seenBy(a[0]).size();
        case "tries": return noIn(spies, a[0]) || noIn(books, a[1]) ? NO_SUCH : pairs(seenBy(a[0]), a[1]);
        default: return a[0] < 1 || a[0] > 99 ? OUT_OF_RANGE : towers.size() < 2 ? -1 : a[0] + towers.size() - 1;
      }
    }

    private boolean noIn(List<?> list, int i) {
      return i < 0 || i >= list.size();
    }

    private boolean noTower(int i) {
      return noIn(towers, i);
    }

    private boolean noStretch(int i) {
      return i < 0 || i + 1L >= towers.size();
    }

    private int tower(int height, int far) {
      if (height < 0 || height > 99 || far < 1 || far > 20) {
        return OUT_OF_RANGE;
      }
      if (towers.size() == 12 || used) {
        return NOT_NOW;
      }
      towers.add(new Station(height, far));
      return towers.size() - 1;
    }

    private int hill(int stretch, int height, int place) {
      if (noStretch(stretch)) {
        return NO_SUCH;
      }
      if (height < 0 || height > 99 || place < 1 || place >= towers.get(stretch + 1).far) {
        return OUT_OF_RANGE;
      }
      List<int[]> hills = towers.get(stretch).hills;
      if (hills.size() == 3) {
        return NOT_NOW;
      }
      hills.add(new int[] {height, place});
      return hills.size();
    }

    private int air(int stretch, int air) {
      if (noStretch(stretch) || air < 0 || air > 2) {
        return noStretch(stretch) ? NO_SUCH : OUT_OF_RANGE;
      }
      int before = towers.get(stretch).air;
      towers.get(stretch).air = air;
      return before;
    }

    private int tire(int tower, int tiredness) {
      if (noTower(tower) || tiredness < 0 || tiredness > 1009) {
        return noTower(tower) ? NO_SUCH : OUT_OF_RANGE;
      }
      int before = towers.get(tower).tired;
      towers.get(tower).tired = tiredness;
      return before;
    }

    private int seed(int next) {
      if (next < 0 || next > 9999) {
        return OUT_OF_RANGE;
      }
      int before = seed;
      seed = next;
      return before;
    }

    private int write(int book, int page, int line, int phrase) {
      if (noIn(books, book)) {
        return NO_SUCH;
      }
      if (page < 0 || page > 91 || line < 0 || line > 91 || phrase < -1 || phrase > 9999) {
        return OUT_OF_RANGE;
      }
      TreeMap<Integer, Integer> spots = books.get(book);
      int spot = page * 1000 + line;
      if (phrase == -1) {
        Integer before = spots.remove(spot);
        return before == null ? -1 : before;
      }
      if (spots.size() == 200 && !spots.containsKey(spot)) {
        return NOT_NOW;
      }
      Integer before = spots.put(spot, phrase);
      return before == null ? -1 : before;
    }

    private int type(int phrase) {
      if (phrase < 0 || phrase > 9999 || text.size() == 12) {
        return phrase < 0 || phrase > 9999 ? OUT_OF_RANGE : NOT_NOW;
      }
      text.add(phrase);
      return text.size();
    }

    private int clear() {
      int before = text.size();
      text.clear();
      return before;
    }

    private int send(int way, int book, boolean urgent) {
      if (noIn(books, book)) {
        return NO_SUCH;
      }
      if (towers.size() < 2 || text.isEmpty() || !books.get(book).values().containsAll(text)) {
        return NOT_NOW;
      }
      List<Kept> signs = new ArrayList<>();
      if (urgent) {
        signs.add(new Kept(96, true));
      }
      signs.add(new Kept(92, urgent));
      for (int phrase : text) {
        int spot = books.get(book).entrySet().stream().filter(e -> e.getValue() == phrase).findFirst().get().getKey();
        signs.add(new Kept(spot / 1000, urgent));
        signs.add(new Kept(spot % 1000, urgent));
      }
      signs.add(new Kept(93, urgent));
      List<Kept> kept = towers.get(way == 1 ? 0 : towers.size() - 1).kept.get(way);
      if (kept.size() + signs.size() > 200) {
        return NOT_NOW;
      }
      kept.addAll(urgent ? (int) kept.stream().filter(k -> k.urgent).count() : kept.size(), signs);
      used = true;
      return kept.size();
    }

    private int mark(int tower, int way, int sign) {
      if (noTower(tower)) {
        return NO_SUCH;
      }
      List<Kept> kept = towers.get(tower).kept.get(way);
      if (isEnd(tower, way) || kept.size() >= 200) {
        return NOT_NOW;
      }
      kept.add(new Kept(sign, false));
      enter(tower, way, sign, 1);
      used = true;
      return kept.size();
    }

    private int spy(int tower) {
      if (noTower(tower) || spies.size() == 6 || tower == towers.size() - 1) {
        return noTower(tower) ? NO_SUCH : NOT_NOW;
      }
      spies.add(new int[] {tower, sights.size()});
      return spies.size() - 1;
    }

    private int pass(int minutes) {
      if (minutes < 1 || minutes > 200) {
        return OUT_OF_RANGE;
      }
      used = true;
      for (int i = 0; i < minutes; i++) {
        now++;
        for (int tower = 0; tower < towers.size(); tower++) {
          look(tower, 1, tower - 1, tower - 1);
          look(tower, 0, tower + 1, tower);
        }
        for (int tower = 0; tower < towers.size(); tower++) {
          show(tower, 1);
          show(tower, 0);
        }
      }
      return now;
    }

    private void look(int tower, int way, int from, int stretch) {
      if (noTower(from)) {
        return;
      }
      Station other = towers.get(from);
      Station here = towers.get(tower);
      boolean mayTake = isEnd(tower, way) || here.kept.get(way).size() < 10;
      if (other.shown[way] == -1 || other.taken[way] || !seesAlong(stretch) || !mayTake) {
        return;
      }
      other.taken[way] = true;
      int sign = other.shown[way];
      int x = (31 * now + 17 * tower + 7 * sign + seed) % 1009;
      int read = x < here.tired && sign < 92 ? sign % 2 == 0 ? sign + 1 : sign - 1 : sign;
      enter(tower, way, read, 0);
      if (isEnd(tower, way)) {
        tapes.get(way).add(new int[] {now, read});
      } else {
        here.kept.get(way).add(new Kept(read, false));
      }
    }

    private void show(int tower, int way) {
      Station here = towers.get(tower);
      if (isEnd(tower, way) || here.shown[way] != -1 && !here.taken[way]) {
        return;
      }
      here.taken[way] = false;
      here.shown[way] = here.kept.get(way).isEmpty() ? -1 : here.kept.get(way).remove(0).sign;
      boolean isSign = here.shown[way] >= 0 && here.shown[way] < 92;
      if (way == 1 && isSign && isDay() && here.air != 2) {
        sights.add(new int[] {tower, here.shown[way]});
      }
    }

    private boolean isEnd(int tower, int way) {
      return way == 1 ? tower == towers.size() - 1 : tower == 0;
    }

    private boolean isDay() {
      return now % 1440 >= 360 && now % 1440 <= 1079;
    }

    private boolean seesAlong(int stretch) {
      Station near = towers.get(stretch);
      Station next = towers.get(stretch + 1);
      for (int[] hill : near.hills) {
        int line = near.height + Math.floorDiv((next.height - near.height) * hill[1], next.far);
        if (hill[0] > line) {
          return false;
        }
      }
      return isDay() && (near.air == 0 || near.air == 1 && next.far <= 10);
    }

    private void enter(int tower, int way, int sign, int own) {
      List<int[]> log = towers.get(tower).logs.get(way);
      if (log.size() < 300) {
        log.add(new int[] {now, sign, own});
      }
    }

    private int keeps(int tower, int way, int place) {
      if (noTower(tower) || place < 0) {
        return NO_SUCH;
      }
      List<Kept> kept = towers.get(tower).kept.get(way);
      return place < kept.size() ? kept.get(place).sign : -1;
    }

    private int log(int tower, int way, int entry, int what) {
      if (noTower(tower) || entry < 0) {
        return NO_SUCH;
      }
      if (what < 0 || what > 2) {
        return OUT_OF_RANGE;
      }
      List<int[]> log = towers.get(tower).logs.get(way);
      return entry < log.size() ? log.get(entry)[what] : -1;
    }

    private List<Integer> heard(int tower, int way) {
      List<Integer> signs = new ArrayList<>();
      for (int[] entry : towers.get(tower).logs.get(way)) {
        if (entry[2] == 0) {
          signs.add(entry[1]);
        }
      }
      return signs;
    }

    private int differs(int tower, int other, int way) {
      List<Integer> one = heard(tower, way);
      List<Integer> two = heard(other, way);
      for (int i = 0; i < Math.min(one.size(), two.size()); i++) {
        if (!one.get(i).equals(two.get(i))) {
          return i;
        }
      }
      return -1;
    }

    /** Reads the whole tape anew: those that came, or those that are open. */
    private List<Letter> letters(int way, boolean thatCame) {
      List<Letter> came = new ArrayList<>();
      List<Letter> open = new ArrayList<>();
      int before = -1;
      for (int[] entry : tapes.get(way)) {
        Letter last = open.isEmpty() ? null : open.get(open.size() - 1);
        if (entry[1] == 92) {
          boolean urgent = before == 96;
          if (!urgent && last != null && !last.urgent) {
            open.clear();
          }
          open.add(new Letter(entry[0], urgent));
        } else if (entry[1] == 94) {
          open.clear();
        } else if (entry[1] == 93 && last != null) {
          open.remove(last);
          last.end = entry[0];
          if (came.size() < 40) {
            came.add(last);
          }
        } else if (entry[1] < 92 && last != null && last.signs.size() < 60) {
          last.signs.add(entry[1]);
        }
        before = entry[1];
      }
      return thatCame ? came : open;
    }

    private int told(int way, int dispatch, int what) {
      List<Letter> came = letters(way, true);
      if (noIn(came, dispatch)) {
        return NO_SUCH;
      }
      if (what < 0 || what > 3) {
        return OUT_OF_RANGE;
      }
      Letter letter = came.get(dispatch);
      return new int[] {letter.end, letter.begin, letter.signs.size() / 2, letter.urgent ? 1 : 0}[what];
    }

    private int phrase(int way, int dispatch, int place, int book) {
      List<Letter> came = letters(way, true);
      if (noIn(came, dispatch) || noIn(books, book)) {
        return NO_SUCH;
      }
      List<Integer> signs = came.get(dispatch).signs;
      if (place < 0 || place >= signs.size() / 2) {
        return NO_SUCH;
      }
      return books.get(book).getOrDefault(signs.get(2 * place) * 1000 + signs.get(2 * place + 1), -1);
    }

    private List<Integer> seenBy(int spy) {
      List<Integer> signs = new ArrayList<>();
      for (int i = spies.get(spy)[1]; i < sights.size() && signs.size() < 200; i++) {
        if (sights.get(i)[0] == spies.get(spy)[0]) {
          signs.add(sights.get(i)[1]);
        }
      }
      return signs;
    }

    private int pairs(List<Integer> signs, int book) {
      int pairs = 0;
      for (int i = 0; i + 1 < signs.size(); i += 2) {
        pairs += books.get(book).containsKey(signs.get(i) * 1000 + signs.get(i + 1)) ? 1 : 0;
      }
      return pairs;
    }
  }
}
