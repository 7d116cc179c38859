/** Promises 28 and 29: how long so many signs take. */
public final class TrialTest {
  public static void main(String[] args) {
    ranges();
    everyLine();
    asOnARealLine();
    whateverThereIs();
    Checks.finish("TrialTest");
  }

  private static void ranges() {
    for (int towers = 0; towers < 3; towers++) {
      ArmtowerLine x = Checks.plain(towers);
      for (int signs : new int[] {0, -1, 100, Integer.MAX_VALUE, Integer.MIN_VALUE}) {
        Checks.outOfRange("comes(" + signs + ")", () -> x.comes(signs));
        Checks.outOfRange("comesAnew(" + signs + ")", () -> x.comesAnew(signs));
      }
      for (int signs : new int[] {1, 99}) {
        Checks.equal("comes(" + signs + ")", x.comes(signs), towers < 2 ? -1 : signs + 1);
        Checks.equal("comesAnew(" + signs + ")", x.comesAnew(signs), towers < 2 ? -1 : signs + 1);
      }
    }
  }

  private static void everyLine() {
    for (int towers = 2; towers <= 12; towers++) {
      ArmtowerLine x = Checks.plain(towers);
      for (int signs = 1; signs <= 99; signs += 7) {
        Checks.equal("comes(" + signs + ") of " + towers, x.comes(signs), signs + towers - 1);
        Checks.equal("comesAnew(" + signs + ") of " + towers, x.comesAnew(signs), signs + towers - 1);
      }
    }
  }

  private static void asOnARealLine() {
    for (int towers = 2; towers <= 12; towers += 5) {
      for (int signs = 1; signs <= 99; signs += 14) {
        ArmtowerLine x = Checks.plain(towers);
        int due = x.comes(signs);
        for (int i = 0; i < signs; i++) {
          x.mark(towers - 1, false, false);
        }
        x.pass(due);
        String call = signs + " signs on " + towers + " towers";
        Checks.equal(call, x.logs(0, false), signs);
        Checks.equal(call + ", the last one", x.log(0, false, signs - 1, 0), 360 + due);
      }
    }
  }

  private static void whateverThereIs() {
    ArmtowerLine x = Checks.withText(4, 3);
    x.send(false, 0, false);
    x.send(true, 0, false);
    x.hill(1, 99, 2);
    x.air(0, 2);
    x.pass(200);
    x.pass(200);
    x.pass(200);
    x.pass(200);
    Checks.equal("comes(9) by night", x.comes(9), 12);
    Checks.equal("comesAnew(9) by night", x.comesAnew(9), 12);
    Checks.equal("minute() is as it was", x.minute(), 1160);
    Checks.equal("shows(0, true) is as it was", x.shows(0, true), 92);
    Checks.equal("logs(1, true) is as it was", x.logs(1, true), 0);
  }
}
