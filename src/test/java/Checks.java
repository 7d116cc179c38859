/** What the tests share: comparing answers, awaiting exceptions, and lines that are built often. */
final class Checks {
  private static int wrong = 0;

  private Checks() {}

  /** A call that answers a number. */
  interface Call {
    int answer();
  }

  static void equal(String call, long got, long due) {
    if (got != due) {
      fail(call + " answered " + got + ", due is " + due);
    }
  }

  static void equal(String call, boolean got, boolean due) {
    equal(call, got ? 1 : 0, due ? 1 : 0);
  }

  /** The exception's very class is asked for, as a class below it would be another answer. */
  static void refused(String call, Class<? extends RuntimeException> due, Call refused) {
    try {
      int got = refused.answer();
      fail(call + " answered " + got + ", due is " + due.getName());
    } catch (RuntimeException e) {
      if (e.getClass() != due) {
        fail(call + " threw " + e + ", due is " + due.getName());
      }
    }
  }

  static void noSuch(String call, Call refused) {
    refused(call, IndexOutOfBoundsException.class, refused);
  }

  static void outOfRange(String call, Call refused) {
    refused(call, IllegalArgumentException.class, refused);
  }

  static void notNow(String call, Call refused) {
    refused(call, IllegalStateException.class, refused);
  }

  static void fail(String what) {
    wrong++;
    System.out.println(what);
  }

  static void finish(String test) {
    if (wrong != 0) {
      System.out.println(test + ": " + wrong + " wrong");
      System.exit(1);
    }
    System.out.println(test + ": all answers are as due");
  }

  /** Towers of one height, 5 apart. */
  static ArmtowerLine plain(int towers) {
    ArmtowerLine x = new ArmtowerLine();
    for (int i = 0; i < towers; i++) {
      x.tower(50, 5);
    }
    return x;
  }

  /** A plain line whose book 0 has the phrase 7 at the page 1 and the line 2, and 7 typed so many times. */
  static ArmtowerLine withText(int towers, int phrases) {
    ArmtowerLine x = plain(towers);
    x.write(0, 1, 2, 7);
    for (int i = 0; i < phrases; i++) {
      x.type(7);
    }
    return x;
  }

  /** Compares what a tower keeps for a way with a row, and that nothing is behind it. */
  static void keeps(String when, ArmtowerLine x, int tower, boolean up, int... due) {
    for (int i = 0; i < due.length; i++) {
      equal(when + ": keeps(" + tower + ", " + up + ", " + i + ")", x.keeps(tower, up, i), due[i]);
    }
    equal(when + ": keeps(" + tower + ", " + up + ", " + due.length + ")", x.keeps(tower, up, due.length), -1);
  }

  /** Compares an entry of a log: its minute, its sign and whether it is own. */
  static void entry(String when, ArmtowerLine x, int tower, boolean up, int entry, int minute, int sign, int own) {
    String call = when + ": log(" + tower + ", " + up + ", " + entry;
    equal(call + ", 0)", x.log(tower, up, entry, 0), minute);
    equal(call + ", 1)", x.log(tower, up, entry, 1), sign);
    equal(call + ", 2)", x.log(tower, up, entry, 2), own);
  }

  /** Compares a dispatch that came: the minutes of END and BEGIN, how many spots, and whether it was urgent. */
  static void told(String when, ArmtowerLine x, boolean up, int dispatch, int... due) {
    for (int what = 0; what < due.length; what++) {
      equal(when + ": told(" + up + ", " + dispatch + ", " + what + ")", x.told(up, dispatch, what), due[what]);
    }
  }
}
