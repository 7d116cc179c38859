/** A line of towers that pass signs on by their arms; README.md tells how it is used. */
public final class ArmtowerLine {
    public static final int BEGIN = 92, END = 93, ERROR = 94, WAIT = 95, URGENT = 96;

    private static final int NONE = -1;
    private static final int MOST_TOWERS = 12;
    private static final int MOST_HEIGHT = 99;
    private static final int MOST_FAR = 20;
    private static final int MOST_HILLS = 3;
    private static final int HAZY = 1;
    private static final int FOGGY = 2;
    private static final int FARTHEST_IN_HAZE = 10;
    private static final int MINUTES_OF_A_DAY = 1440;
    private static final int DAWN = 360;
    private static final int DUSK = 1080;
    private static final int MOST_MINUTES = 200;
    private static final int MOST_SEED = 9999;
    private static final int READING_CYCLE = 1009;
    private static final int MOST_BEFORE_TAKING = 10;
    private static final int MOST_KEPT = 200;
    private static final int MOST_LOGGED = 300;
    private static final int BOOKS = 3;
    private static final int MOST_SPOTS = 200;
    private static final int SPOT_SIGNS = 92;
    private static final int MOST_PHRASE = 9999;
    private static final int MOST_TEXT = 12;
    private static final int LONGEST_DISPATCH = 2 * MOST_TEXT + 3;
    private static final int MOST_CAME = 40;
    private static final int MOST_SIGNS_OF_A_DISPATCH = 60;
    private static final int MOST_SPIES = 6;
    private static final int MOST_SEEN = 200;
    private static final int MOST_TRIAL_SIGNS = 99;
    private static final int MOST_TRIAL_MINUTES = 100000;

    private final Tower[] towerRow;
    private final Stretch[] stretchRow;
    private int built;
    private boolean begun;
    private int now;
    private int readingSeed;
    private final Book[] books;
    private final int[] text;
    private int typed;
    private final int[] dispatchRow;
    private final Tape upTape;
    private final Tape downTape;
    private final Spy[] spies;
    private int spying;

    public ArmtowerLine() {
        towerRow = new Tower[MOST_TOWERS];
        stretchRow = new Stretch[MOST_TOWERS];
        now = DAWN;
        books = new Book[BOOKS];
        for (int i = 0; i < BOOKS; i++) {
            books[i] = new Book();
        }
        text = new int[MOST_TEXT];
        dispatchRow = new int[LONGEST_DISPATCH];
        upTape = new Tape();
        downTape = new Tape();
        spies = new Spy[MOST_SPIES];
    }

    // ---- the line

    public int tower(int height, int far) throws IllegalArgumentException, IllegalStateException {
        if (isOutside(height, 0, MOST_HEIGHT) || isOutside(far, 1, MOST_FAR)) {
            throw new IllegalArgumentException("height or far is out of range");
        }
        if (built >= MOST_TOWERS || begun) {
            throw new IllegalStateException("there are 12 towers, or the line is in use");
        }
        towerRow[built] = new Tower(height);
        if (built > 0) {
            stretchRow[built - 1] = new Stretch(far);
        }
        built++;
        return built - 1;
    }

    public int hill(int stretch, int height, int place)
            throws IndexOutOfBoundsException, IllegalArgumentException, IllegalStateException {
        Stretch lying = stretchAt(stretch);
        if (isOutside(height, 0, MOST_HEIGHT) || isOutside(place, 1, lying.length - 1)) {
            throw new IllegalArgumentException("height or place is out of range");
        }
        if (!lying.layHill(height, place)) {
            throw new IllegalStateException("the stretch has 3 hills");
        }
        return lying.hills;
    }

    public int air(int stretch, int air) throws IndexOutOfBoundsException, IllegalArgumentException {
        Stretch lying = stretchAt(stretch);
        if (isOutside(air, 0, FOGGY)) {
            throw new IllegalArgumentException("air is out of range");
        }
        int before = lying.weather;
        lying.weather = air;
        return before;
    }

    public int tire(int tower, int tiredness) throws IndexOutOfBoundsException, IllegalArgumentException {
        Tower tired = towerAt(tower);
        if (isOutside(tiredness, 0, READING_CYCLE)) {
            throw new IllegalArgumentException("tiredness is out of range");
        }
        int before = tired.tiredness;
        tired.tiredness = tiredness;
        return before;
    }

    public int seed(int seed) throws IllegalArgumentException {
        if (isOutside(seed, 0, MOST_SEED)) {
            throw new IllegalArgumentException("seed is out of range");
        }
        int before = readingSeed;
        readingSeed = seed;
        return before;
    }

    // ---- books, dispatches

    public int write(int book, int page, int line, int phrase)
            throws IndexOutOfBoundsException, IllegalArgumentException, IllegalStateException {
        Book target = bookAt(book);
        if (isOutside(page, 0, SPOT_SIGNS - 1) || isOutside(line, 0, SPOT_SIGNS - 1)
                || isOutside(phrase, NONE, MOST_PHRASE)) {
            throw new IllegalArgumentException("page, line or phrase is out of range");
        }
        int spot = spotOf(page, line);
        int before = target.phraseAt(spot);
        if (!target.put(spot, phrase)) {
            throw new IllegalStateException("the book has 200 spots");
        }
        return before;
    }

    public int type(int phrase) throws IllegalArgumentException, IllegalStateException {
        if (isOutside(phrase, 0, MOST_PHRASE)) {
            throw new IllegalArgumentException("phrase is out of range");
        }
        if (typed >= MOST_TEXT) {
            throw new IllegalStateException("the text has 12 phrases");
        }
        text[typed] = phrase;
        typed++;
        return typed;
    }

    public int clear() {
        int before = typed;
        typed = 0;
        return before;
    }

    public int send(boolean fromLast, int book, boolean isUrgent)
            throws IndexOutOfBoundsException, IllegalStateException {
        Book by = bookAt(book);
        if (built < 2 || typed == 0) {
            throw new IllegalStateException("there are fewer than 2 towers, or no text");
        }
        int signs = layOut(by, isUrgent);
        if (signs == NONE) {
            throw new IllegalStateException("a phrase is not in the book");
        }
        Arm arm = fromLast ? towerRow[built - 1].down : towerRow[0].up;
        if (!arm.keepAll(dispatchRow, signs, isUrgent)) {
            throw new IllegalStateException("the tower would keep more than 200 signs");
        }
        begun = true;
        return arm.count;
    }

    public int mark(int tower, boolean up, boolean isError)
            throws IndexOutOfBoundsException, IllegalStateException {
        Arm arm = towerAt(tower).armFor(up);
        int sign = isError ? ERROR : WAIT;
        if (isEnd(tower, up) || !arm.keepOne(sign)) {
            throw new IllegalStateException("the way ends there, or the tower would keep more than 200 signs");
        }
        arm.entries.enter(now, sign, true);
        begun = true;
        return arm.count;
    }

    public int spy(int tower) throws IndexOutOfBoundsException, IllegalStateException {
        towerAt(tower);
        if (spying >= MOST_SPIES || tower == built - 1) {
            throw new IllegalStateException("there are 6 spies, or the tower is the last one");
        }
        spies[spying] = new Spy(tower);
        spying++;
        return spying - 1;
    }

    public int pass(int minutes) throws IllegalArgumentException {
        if (isOutside(minutes, 1, MOST_MINUTES)) {
            throw new IllegalArgumentException("minutes is out of range");
        }
        begun = true;
        for (int i = 0; i < minutes; i++) {
            passOne();
        }
        return now;
    }

    // ---- what there is; nothing from here on changes anything

    public int minute() {
        return now;
    }

    public int towers() {
        return built;
    }

    public boolean sees(int stretch) throws IndexOutOfBoundsException {
        stretchAt(stretch);
        return isSeenAlong(stretch);
    }

    public int shows(int tower, boolean up) throws IndexOutOfBoundsException {
        return towerAt(tower).armFor(up).shown;
    }

    public int keeps(int tower, boolean up, int place) throws IndexOutOfBoundsException {
        Arm arm = towerAt(tower).armFor(up);
        if (place < 0) {
            throw new IndexOutOfBoundsException("place is below 0");
        }
        return place < arm.count ? arm.kept[place] : NONE;
    }

    public int logs(int tower, boolean up) throws IndexOutOfBoundsException {
        return towerAt(tower).armFor(up).entries.count;
    }

    public int log(int tower, boolean up, int entry, int what)
            throws IndexOutOfBoundsException, IllegalArgumentException {
        Log entries = towerAt(tower).armFor(up).entries;
        if (entry < 0) {
            throw new IndexOutOfBoundsException("entry is below 0");
        }
        if (isOutside(what, 0, 2)) {
            throw new IllegalArgumentException("what is out of range");
        }
        return entry < entries.count ? entries.tell(entry, what) : NONE;
    }

    public int differs(int tower, int other, boolean up) throws IndexOutOfBoundsException {
        Log one = towerAt(tower).armFor(up).entries;
        Log second = towerAt(other).armFor(up).entries;
        return firstUnlike(one, second);
    }

    public int came(boolean up) {
        return tapeOf(up).arrivals;
    }

    public int told(boolean up, int dispatch, int what)
            throws IndexOutOfBoundsException, IllegalArgumentException {
        Dispatch arrived = dispatchAt(up, dispatch);
        if (isOutside(what, 0, 3)) {
            throw new IllegalArgumentException("what is out of range");
        }
        return arrived.tell(what);
    }

    public int phrase(boolean up, int dispatch, int place, int book) throws IndexOutOfBoundsException {
        Dispatch arrived = dispatchAt(up, dispatch);
        Book by = bookAt(book);
        if (isOutside(place, 0, arrived.spots() - 1)) {
            throw new IndexOutOfBoundsException("no such place");
        }
        return by.phraseAt(spotOf(arrived.signs[2 * place], arrived.signs[2 * place + 1]));
    }

    public int open(boolean up) {
        return tapeOf(up).begunCount;
    }

    public int seen(int spy) throws IndexOutOfBoundsException {
        return spyAt(spy).count;
    }

    public int tries(int spy, int book) throws IndexOutOfBoundsException {
        Spy trying = spyAt(spy);
        Book tried = bookAt(book);
        int pairs = 0;
        for (int i = 0; i + 1 < trying.count; i += 2) {
            if (tried.phraseAt(spotOf(trying.signs[i], trying.signs[i + 1])) != NONE) {
                pairs++;
            }
        }
        return pairs;
    }

    public int comes(int signs) throws IllegalArgumentException {
        if (isOutside(signs, 1, MOST_TRIAL_SIGNS)) {
            throw new IllegalArgumentException("signs is out of range");
        }
        // No tower ever waits for another one: each sign follows a minute behind the one ahead of it.
        return built < 2 ? NONE : signs + built - 1;
    }

    public int comesAnew(int signs) throws IllegalArgumentException {
        if (isOutside(signs, 1, MOST_TRIAL_SIGNS)) {
            throw new IllegalArgumentException("signs is out of range");
        }
        return built < 2 ? NONE : minutesOfTrial(signs, built - 1);
    }

    // ---- looking things up

    private static boolean isOutside(int value, int least, int most) {
        return value < least || value > most;
    }

    private static int spotOf(int page, int line) {
        return page * SPOT_SIGNS + line;
    }

    private Tower towerAt(int tower) {
        if (tower < 0 || tower >= built) {
            throw new IndexOutOfBoundsException("no such tower");
        }
        return towerRow[tower];
    }

    private Stretch stretchAt(int stretch) {
        if (stretch < 0 || stretch >= built - 1) {
            throw new IndexOutOfBoundsException("no such stretch");
        }
        return stretchRow[stretch];
    }

    private Book bookAt(int book) {
        if (book < 0 || book >= BOOKS) {
            throw new IndexOutOfBoundsException("no such book");
        }
        return books[book];
    }

    private Spy spyAt(int spy) {
        if (spy < 0 || spy >= spying) {
            throw new IndexOutOfBoundsException("no such spy");
        }
        return spies[spy];
    }

    private Dispatch dispatchAt(boolean up, int dispatch) {
        Tape tape = tapeOf(up);
        if (dispatch < 0 || dispatch >= tape.arrivals) {
            throw new IndexOutOfBoundsException("no such dispatch");
        }
        return tape.arrived[dispatch];
    }

    private Tape tapeOf(boolean up) {
        return up ? upTape : downTape;
    }

    private boolean isEnd(int tower, boolean up) {
        return tower == (up ? built - 1 : 0);
    }

    private boolean isDay() {
        int minuteOfDay = now % MINUTES_OF_A_DAY;
        return minuteOfDay >= DAWN && minuteOfDay < DUSK;
    }

    private boolean isSeenAlong(int stretch) {
        return isDay() && stretchRow[stretch].isClear(towerRow[stretch].height, towerRow[stretch + 1].height);
    }

    // ---- sending

    /** Lays the text out as signs in the dispatch row; answers how many, or NONE if a phrase is not in the book. */
    private int layOut(Book by, boolean isUrgent) {
        int signs = 0;
        if (isUrgent) {
            dispatchRow[signs++] = URGENT;
        }
        dispatchRow[signs++] = BEGIN;
        for (int i = 0; i < typed; i++) {
            int spot = by.lowestSpotOf(text[i]);
            if (spot == NONE) {
                return NONE;
            }
            dispatchRow[signs++] = spot / SPOT_SIGNS;
            dispatchRow[signs++] = spot % SPOT_SIGNS;
        }
        dispatchRow[signs++] = END;
        return signs;
    }

    // ---- a minute

    private void passOne() {
        now++;
        for (int tower = 0; tower < built; tower++) {
            look(tower, true);
            look(tower, false);
        }
        for (int tower = 0; tower < built; tower++) {
            showNext(tower, true);
            showNext(tower, false);
        }
    }

    private void look(int tower, boolean up) {
        int from = up ? tower - 1 : tower + 1;
        if (from < 0 || from >= built) {
            return;
        }
        Arm giving = towerRow[from].armFor(up);
        Arm taking = towerRow[tower].armFor(up);
        boolean ends = isEnd(tower, up);
        if (giving.shown == NONE || !ends && taking.count >= MOST_BEFORE_TAKING
                || !isSeenAlong(Math.min(from, tower))) {
            return;
        }
        int sign = signAsRead(tower, giving.shown);
        // What was taken is never asked for again: it counts as none from here on.
        giving.shown = NONE;
        taking.entries.enter(now, sign, false);
        if (ends) {
            tapeOf(up).putOn(sign, now);
        } else {
            taking.keepOne(sign);
        }
    }

    private int signAsRead(int tower, int sign) {
        int x = (31 * now + 17 * tower + 7 * sign + readingSeed) % READING_CYCLE;
        if (x >= towerRow[tower].tiredness || sign >= SPOT_SIGNS) {
            return sign;
        }
        return sign % 2 == 0 ? sign + 1 : sign - 1;
    }

    private void showNext(int tower, boolean up) {
        Arm arm = towerRow[tower].armFor(up);
        if (isEnd(tower, up) || arm.shown != NONE) {
            return;
        }
        arm.shown = arm.removeFirst();
        if (up && arm.shown != NONE) {
            tellSpies(tower, arm.shown);
        }
    }

    private void tellSpies(int tower, int sign) {
        if (sign >= SPOT_SIGNS || !isDay() || stretchRow[tower].weather == FOGGY) {
            return;
        }
        for (int i = 0; i < spying; i++) {
            if (spies[i].tower == tower) {
                spies[i].note(sign);
            }
        }
    }

    // ---- comparing and counting

    private static int firstUnlike(Log one, Log other) {
        int i = one.nextTaken(0);
        int k = other.nextTaken(0);
        for (int place = 0; place < MOST_LOGGED; place++) {
            if (i >= one.count || k >= other.count) {
                return NONE;
            }
            if (one.signs[i] != other.signs[k]) {
                return place;
            }
            i = one.nextTaken(i + 1);
            k = other.nextTaken(k + 1);
        }
        return NONE;
    }

    /** The minutes until all signs, kept at the tower 0 at first, are at the tower last, which is 1 or more. */
    private static int minutesOfTrial(int signs, int last) {
        int[] kept = new int[MOST_TOWERS];
        boolean[] shown = new boolean[MOST_TOWERS];
        kept[0] = signs;
        for (int minute = 1; minute <= MOST_TRIAL_MINUTES; minute++) {
            passTrialMinute(kept, shown, last);
            if (kept[last] == signs) {
                return minute;
            }
        }
        return NONE;
    }

    private static void passTrialMinute(int[] kept, boolean[] shown, int last) {
        for (int tower = 1; tower <= last; tower++) {
            if (shown[tower - 1] && (tower == last || kept[tower] < MOST_BEFORE_TAKING)) {
                shown[tower - 1] = false;
                kept[tower]++;
            }
        }
        for (int tower = 0; tower < last; tower++) {
            if (!shown[tower] && kept[tower] > 0) {
                kept[tower]--;
                shown[tower] = true;
            }
        }
    }

    private static final class Tower {
        private final int height;
        private int tiredness;
        private final Arm up;
        private final Arm down;

        private Tower(int height) {
            this.height = height;
            up = new Arm();
            down = new Arm();
        }

        private Arm armFor(boolean isUp) {
            return isUp ? up : down;
        }
    }

    private static final class Stretch {
        private final int length;
        private final int[] heights;
        private final int[] places;
        private int hills;
        private int weather;

        private Stretch(int length) {
            this.length = length;
            heights = new int[MOST_HILLS];
            places = new int[MOST_HILLS];
        }

        private boolean layHill(int height, int place) {
            if (hills >= MOST_HILLS) {
                return false;
            }
            heights[hills] = height;
            places[hills] = place;
            hills++;
            return true;
        }

        /** Whether the air and the hills let two towers of these heights see each other by day. */
        private boolean isClear(int near, int far) {
            if (weather == FOGGY || weather == HAZY && length > FARTHEST_IN_HAZE) {
                return false;
            }
            for (int i = 0; i < hills; i++) {
                // A whole number is above a quotient rounded down just if it is above the quotient itself,
                // so the line's height needs no division.
                if ((heights[i] - near) * length > (far - near) * places[i]) {
                    return false;
                }
            }
            return true;
        }
    }

    /** What a tower keeps, shows and logs for one way. */
    private static final class Arm {
        private final int[] kept;
        private int count;
        // Urgent dispatches go ahead of all else, so what is left of them is the first of what is kept.
        private int urgentLeft;
        private int shown;
        private final Log entries;

        private Arm() {
            kept = new int[MOST_KEPT];
            shown = NONE;
            entries = new Log();
        }

        private boolean keepOne(int sign) {
            if (count >= MOST_KEPT) {
                return false;
            }
            kept[count] = sign;
            count++;
            return true;
        }

        private boolean keepAll(int[] row, int signs, boolean isUrgent) {
            if (count + signs > MOST_KEPT) {
                return false;
            }
            int at = isUrgent ? urgentLeft : count;
            System.arraycopy(kept, at, kept, at + signs, count - at);
            System.arraycopy(row, 0, kept, at, signs);
            count += signs;
            if (isUrgent) {
                urgentLeft += signs;
            }
            return true;
        }

        private int removeFirst() {
            if (count == 0) {
                return NONE;
            }
            int sign = kept[0];
            count--;
            System.arraycopy(kept, 1, kept, 0, count);
            if (urgentLeft > 0) {
                urgentLeft--;
            }
            return sign;
        }
    }

    private static final class Log {
        private final int[] minutes;
        private final int[] signs;
        private final boolean[] own;
        private int count;

        private Log() {
            minutes = new int[MOST_LOGGED];
            signs = new int[MOST_LOGGED];
            own = new boolean[MOST_LOGGED];
        }

        private void enter(int minute, int sign, boolean isOwn) {
            if (count >= MOST_LOGGED) {
                return;
            }
            minutes[count] = minute;
            signs[count] = sign;
            own[count] = isOwn;
            count++;
        }

        private int tell(int entry, int what) {
            if (what == 0) {
                return minutes[entry];
            }
            if (what == 1) {
                return signs[entry];
            }
            return own[entry] ? 1 : 0;
        }

        /** The first entry, from this one on, that is not the tower's own; the count if there is none. */
        private int nextTaken(int from) {
            for (int i = from; i < count; i++) {
                if (!own[i]) {
                    return i;
                }
            }
            return count;
        }
    }

    private static final class Book {
        private final int[] spots;
        private final int[] phrases;
        private int count;

        private Book() {
            spots = new int[MOST_SPOTS];
            phrases = new int[MOST_SPOTS];
        }

        private int indexOf(int spot) {
            for (int i = 0; i < count; i++) {
                if (spots[i] == spot) {
                    return i;
                }
            }
            return NONE;
        }

        private int phraseAt(int spot) {
            int at = indexOf(spot);
            return at == NONE ? NONE : phrases[at];
        }

        private int lowestSpotOf(int phrase) {
            int lowest = NONE;
            for (int i = 0; i < count; i++) {
                if (phrases[i] == phrase && (lowest == NONE || spots[i] < lowest)) {
                    lowest = spots[i];
                }
            }
            return lowest;
        }

        /** Puts a phrase, or NONE, at a spot; answers false, and does nothing, if the book is full for it. */
        private boolean put(int spot, int phrase) {
            int at = indexOf(spot);
            if (phrase == NONE) {
                remove(at);
                return true;
            }
            if (at == NONE) {
                return add(spot, phrase);
            }
            phrases[at] = phrase;
            return true;
        }

        private boolean add(int spot, int phrase) {
            if (count >= MOST_SPOTS) {
                return false;
            }
            spots[count] = spot;
            phrases[count] = phrase;
            count++;
            return true;
        }

        private void remove(int at) {
            if (at < 0 || at >= count) {
                return;
            }
            count--;
            spots[at] = spots[count];
            phrases[at] = phrases[count];
        }
    }

    /** What comes at the end of one way. */
    private static final class Tape {
        private final Dispatch[] arrived;
        private int arrivals;
        private Dispatch latest;
        private int begunCount;
        private boolean urgentAhead;

        private Tape() {
            arrived = new Dispatch[MOST_CAME];
        }

        private void putOn(int sign, int minute) {
            boolean isUrgent = urgentAhead;
            urgentAhead = sign == URGENT;
            if (sign == BEGIN) {
                begin(minute, isUrgent);
            } else if (sign == END) {
                end(minute);
            } else if (sign == ERROR) {
                dropAll();
            } else if (sign < SPOT_SIGNS && latest != null) {
                latest.add(sign);
            }
        }

        private void begin(int minute, boolean isUrgent) {
            if (!isUrgent && latest != null && !latest.urgent) {
                dropAll();
            }
            latest = new Dispatch(minute, isUrgent, latest);
            begunCount++;
        }

        private void end(int minute) {
            if (latest == null) {
                return;
            }
            Dispatch ended = latest;
            latest = ended.below;
            begunCount--;
            ended.ended = minute;
            if (arrivals < MOST_CAME) {
                arrived[arrivals] = ended;
                arrivals++;
            }
        }

        private void dropAll() {
            latest = null;
            begunCount = 0;
        }
    }

    private static final class Dispatch {
        private final int begun;
        private int ended;
        private final boolean urgent;
        private final int[] signs;
        private int count;
        // The dispatch that this one interrupted, or null.
        private final Dispatch below;

        private Dispatch(int begun, boolean urgent, Dispatch below) {
            this.begun = begun;
            this.urgent = urgent;
            this.below = below;
            signs = new int[MOST_SIGNS_OF_A_DISPATCH];
        }

        private void add(int sign) {
            if (count < MOST_SIGNS_OF_A_DISPATCH) {
                signs[count] = sign;
                count++;
            }
        }

        private int spots() {
            return count / 2;
        }

        private int tell(int what) {
            if (what == 0) {
                return ended;
            }
            if (what == 1) {
                return begun;
            }
            if (what == 2) {
                return spots();
            }
            return urgent ? 1 : 0;
        }
    }

    private static final class Spy {
        private final int tower;
        private final int[] signs;
        private int count;

        private Spy(int tower) {
            this.tower = tower;
            signs = new int[MOST_SEEN];
        }

        private void note(int sign) {
            if (count < MOST_SEEN) {
                signs[count] = sign;
                count++;
            }
        }
    }
}
