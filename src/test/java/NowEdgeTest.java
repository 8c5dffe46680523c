/** The edges that the document names under 'Terms' (phase, due, limit) and under the promises 8 to 16. */
public final class NowEdgeTest {
  private static final Check check = new Check();

  public static void main(String[] args) {
    phaseGoesAround();
    dueBelowItsLength();
    lightsUpInPhaseNought();
    noMoreThanTheLimit();
    darkLampTakesNoPower();
    lookedAtByNumbers();
    limitNoughtAndGreatest();
    lampNotDueNeitherShinesNorIsDark();
    powerOfNone();
    beatsOfALongRun();
    check.end();
  }

  /** "The phase of a lamp in a beat is (beat + shift) % period": over three rounds, with each period and shift. */
  private static void phaseGoesAround() {
    for (int period = 2; period <= 20; period++) {
      for (int shift = 0; shift < period; shift++) {
        PulseLoom loom = Looms.withPeriods(period);
        loom.setShift(0, shift);
        int due = shift;
        for (int beat = 0; beat < 3 * period; beat++) {
          check.same("12: period " + period + ", shift " + shift + ", beat " + beat, loom.phaseOf(0), due);
          due = due == period - 1 ? 0 : due + 1;
          loom.pass(1);
        }
      }
    }
  }

  /** "It is due in the beats in which its phase is less than its length": at each phase, with each length. */
  private static void dueBelowItsLength() {
    for (int period = 2; period <= 20; period++) {
      PulseLoom loom = Looms.withPeriods(period);
      for (int phase = 0; phase < period; phase++) {
        loom.setShift(0, phase);
        for (int length = 1; length < period; length++) {
          loom.setLength(0, length);
          String where = " phase " + phase + ", length " + length + " of " + period;
          check.same("13:" + where, loom.isDue(0), phase < length);
          check.same("14: shines,", loom.shines(0), phase < length);
          check.same("11: power(),", loom.power(), phase < length ? 1 : 0);
        }
      }
    }
  }

  /** "it lights up in those in which its phase is 0": not in the others in which it is due. */
  private static void lightsUpInPhaseNought() {
    for (int period = 2; period <= 20; period++) {
      PulseLoom loom = Looms.withPeriods(period);
      loom.setLength(0, period - 1);
      for (int phase = 0; phase < period; phase++) {
        loom.setShift(0, phase);
        int wait = phase == 0 ? 0 : period - phase;
        check.same("24: itself, phase " + phase + " of " + period, loom.beatsUntilMeet(0, 0), wait);
      }
    }
  }

  private static String shining(PulseLoom loom) {
    StringBuilder text = new StringBuilder();
    for (int lamp = 0; lamp < loom.lamps(); lamp++) {
      text.append(loom.shines(lamp) ? '*' : '.');
    }
    return text.append(' ').append(loom.power()).toString();
  }

  /** "one shines, if its power and those of all that shine ahead of it, added, are no more than the limit". */
  private static void noMoreThanTheLimit() {
    PulseLoom loom = Looms.withPowers(9, 8, 4);
    String[][] due = {
      {"3", "... 0"}, {"4", "..* 4"}, {"7", "..* 4"}, {"8", ".*. 8"}, {"9", "*.. 9"}, {"12", "*.. 9"},
      {"13", "*.* 13"}, {"16", "*.* 13"}, {"17", "**. 17"}, {"20", "**. 17"}, {"21", "*** 21"}, {"22", "*** 21"},
    };
    for (String[] row : due) {
      loom.setLimit(Integer.parseInt(row[0]));
      check.sameText("14: limit " + row[0], shining(loom), row[1]);
    }
  }

  /** "those of all that shine ahead of it": one that stays dark adds nothing, though it is due. */
  private static void darkLampTakesNoPower() {
    PulseLoom loom = Looms.withPowers(1, 9, 9, 1, 1);
    loom.setLimit(2);
    check.sameText("14: two dark between", shining(loom), "*..*. 2");
    loom.setLimit(3);
    check.sameText("14: two dark between, 3", shining(loom), "*..** 3");
  }

  /** "looked at by numbers": the smaller number goes first, whatever the shift, the phase or the power is. */
  private static void lookedAtByNumbers() {
    PulseLoom loom = new PulseLoom();
    loom.addLamp(5, 9, 8, 3);
    loom.addLamp(0, 2, 1, 9);
    loom.addLamp(0, 5, 4, 6);
    loom.setShift(0, 7);
    loom.setShift(2, 3);
    loom.setLimit(9);
    check.sameText("14: the first and the last", shining(loom), "*.* 9");
    loom.swapColours(0, 1);
    check.sameText("14: colours count for nothing", shining(loom), "*.* 9");
    loom.setShift(0, 8);
    check.sameText("14: the first is not due", shining(loom), ".*. 9");
  }

  private static void limitNoughtAndGreatest() {
    PulseLoom loom = Looms.withPowers(9, 9, 9, 9, 9, 9, 9, 9);
    loom.setLimit(0);
    check.sameText("14: limit 0", shining(loom), "........ 0");
    loom.setLimit(71);
    check.sameText("14: limit 71", shining(loom), "*******. 63");
    loom.setLimit(72);
    check.sameText("14: limit 72", shining(loom), "******** 72");
    loom.setLimit(99);
    check.sameText("14: limit 99", shining(loom), "******** 72");
    PulseLoom atFirst = Looms.withPowers(9, 9, 2, 1);
    check.sameText("Terms: limit '20, at first'", shining(atFirst), "***. 20");
    PulseLoom oneMore = Looms.withPowers(9, 9, 3, 1);
    check.sameText("Terms: limit '20, at first', 21", shining(oneMore), "**.* 19");
  }

  private static void lampNotDueNeitherShinesNorIsDark() {
    PulseLoom loom = Looms.withPowers(9);
    loom.setLimit(0);
    loom.pass(1);
    check.same("13: not due", loom.isDue(0), false);
    check.same("14: not due", loom.shines(0), false);
    check.same("7: none stays dark that is not due", loom.pass(1), 0);
    check.same("18: not counted", loom.stayedDark(0), 1);
    check.same("17: not counted", loom.shone(0), 0);
  }

  private static void powerOfNone() {
    check.same("11: without lamps", new PulseLoom().power(), 0);
    PulseLoom loom = Looms.withPowers(9, 9);
    loom.pass(1);
    check.same("11: none due", loom.power(), 0);
  }

  /** "An object is used for at most 512 calls": the latest beat that they reach, and what is due there. */
  private static void beatsOfALongRun() {
    PulseLoom loom = new PulseLoom();
    loom.addLamp(0, 19, 18, 9);
    loom.setShift(0, 18);
    for (int call = 3; call <= 507; call++) {
      loom.pass(200);
    }
    check.same("8: 505 times 200 beats", loom.beat(), 101000);
    check.same("12: (101000 + 18) % 19", loom.phaseOf(0), 14);
    check.same("17: all but one of each 19", loom.shone(0), 95684);
    check.same("24: 19 less 14", loom.beatsUntilMeet(0, 0), 5);
    check.same("28: up to beat 201000", loom.dueIn(0, 100000), 94737);
  }
}
