import java.util.function.DoubleSupplier;

/** Long runs of drawn calls, wrong ones among them: each answer must be the model's. The same runs each time. */
public final class ModelTest {
  private static final int RUNS = 150;
  private static final int CALLS = 512;
  private static final Check check = new Check();

  private long seed;
  private final PulseLoom loom = new PulseLoom();
  private final Model model = new Model();
  private final int manyWrong;

  private ModelTest(int run) {
    seed = run * 7919L + 17;
    manyWrong = run % 3;
  }

  public static void main(String[] args) {
    for (int run = 0; run < RUNS; run++) {
      ModelTest test = new ModelTest(run);
      for (int call = 0; call < CALLS; call++) {
        test.drawnCall("run " + run + ", call " + call + ", kind ");
      }
    }
    check.end();
  }

  private int draw(int least, int most) {
    seed = seed * 6364136223846793005L + 1442695040888963407L;
    return least + (int) Math.floorMod(seed >>> 33, (long) (most - least + 1));
  }

  /** Mostly within bounds; now and then just outside, or as far outside as an int goes. */
  private int near(int least, int most) {
    int kind = draw(0, 39);
    if (kind < manyWrong) {
      return draw(0, 1) == 0 ? least - 1 : most + 1;
    }
    if (kind == 39 && manyWrong > 0) {
      return draw(0, 1) == 0 ? Integer.MIN_VALUE : Integer.MAX_VALUE;
    }
    return draw(least, most);
  }

  private int lamp() {
    return near(0, Math.max(0, model.lamps.size() - 1));
  }

  private static double truth(boolean answer) {
    return answer ? 1 : 0;
  }

  private void compare(String what, DoubleSupplier got, DoubleSupplier due) {
    check.sameText(what, told(got), told(due));
  }

  private static String told(DoubleSupplier call) {
    try {
      return Double.toString(call.getAsDouble());
    } catch (IllegalArgumentException | IllegalStateException | IndexOutOfBoundsException e) {
      return e.getClass().getName();
    }
  }

  private void drawnCall(String where) {
    int kind = model.lamps.isEmpty() && draw(0, 3) > 0 ? 0 : draw(0, 31);
    String what = where + kind;
    if (kind < 6) {
      changingCall(what, kind);
    } else if (kind < 19) {
      callOfNow(what, kind);
    } else {
      callOfPeriods(what, kind);
    }
  }

  private void changingCall(String what, int kind) {
    int one = lamp();
    int other = lamp();
    int number = near(0, 19);
    int period = near(2, 20);
    int power = near(1, 9);
    int colour = near(0, 5);
    int limit = draw(0, 1) == 0 ? near(0, 99) : near(0, 30);
    int beats = draw(0, 3) == 0 ? near(1, 200) : near(1, 9);
    // Lamps come slowly, so that runs stay for a while at each number of them.
    boolean tooSoon = draw(0, 2) > 0;
    switch (kind) {
      case 0 -> {
        if (!tooSoon) {
          int length = near(1, Math.min(30, Math.max(1, period - 1)));
          compare(what, () -> loom.addLamp(colour, period, length, power),
              () -> model.addLamp(colour, period, length, power));
        }
      }
      case 1 -> compare(what, () -> loom.setShift(one, number), () -> model.setShift(one, number));
      case 2 -> compare(what, () -> loom.setLength(one, number), () -> model.setLength(one, number));
      case 3 -> compare(what, () -> truth(loom.swapColours(one, other)), () -> truth(model.swapColours(one, other)));
      case 4 -> compare(what, () -> loom.setLimit(limit), () -> model.setLimit(limit));
      default -> compare(what, () -> loom.pass(beats), () -> model.pass(beats));
    }
  }

  private void callOfNow(String what, int kind) {
    int one = lamp();
    int colour = near(0, 5);
    switch (kind) {
      case 6 -> compare(what, loom::beat, () -> model.beat);
      case 7 -> compare(what, loom::lamps, () -> model.lamps.size());
      case 8 -> compare(what, loom::limit, () -> model.limit);
      case 9 -> compare(what, loom::power, model::power);
      case 10 -> compare(what, () -> loom.phaseOf(one), () -> model.phaseOf(one));
      case 11 -> compare(what, () -> truth(loom.isDue(one)), () -> truth(model.isDue(one)));
      case 12 -> compare(what, () -> truth(loom.shines(one)), () -> truth(model.shines(one)));
      case 13 -> compare(what, () -> loom.colourOf(one), () -> model.colourOf(one));
      case 14 -> compare(what, () -> loom.shiftOf(one), () -> model.shiftOf(one));
      case 15 -> compare(what, () -> loom.shone(one), () -> model.shone(one));
      case 16 -> compare(what, () -> loom.stayedDark(one), () -> model.stayedDark(one));
      case 17 -> compare(what, () -> loom.seen(colour), () -> model.seen(colour));
      default -> compare(what, loom::unfairness, model::unfairness);
    }
  }

  private void callOfPeriods(String what, int kind) {
    int one = lamp();
    int other = lamp();
    int beats = draw(0, 3) == 0 ? near(1, 200) : near(1, 30);
    int manyBeats = near(1, 100000);
    switch (kind) {
      case 19 -> compare(what, loom::together, model::together);
      case 20 -> compare(what, () -> loom.divisor(one, other), () -> model.divisor(one, other));
      case 21 -> compare(what, () -> truth(loom.meet(one, other)), () -> truth(model.meet(one, other)));
      case 22 -> compare(what, () -> loom.beatsUntilMeet(one, other), () -> model.beatsUntilMeet(one, other));
      case 23 -> compare(what, () -> loom.meets(one), () -> model.meets(one));
      case 24 -> compare(what, loom::apart, model::apart);
      case 25 -> compare(what, () -> loom.bestShift(one), () -> model.bestShift(one));
      case 26 -> compare(what, () -> loom.dueIn(one, manyBeats), () -> model.dueIn(one, manyBeats));
      case 27 -> compare(what, () -> loom.brightest(beats), () -> model.brightest(beats));
      case 28 -> compare(what, () -> loom.unfairnessIn(beats), () -> model.unfairnessIn(beats));
      case 29 -> compare(what, () -> loom.limitWanted(beats), () -> model.limitWanted(beats));
      case 30 -> compare(what, loom::meanShone, model::meanShone);
      default -> check.same(what, loom.digest(), model.digest());
    }
  }
}
