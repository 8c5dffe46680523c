/** The edges that the document names under "Two lamps meet" and under the promises 21 to 26. */
public final class PeriodsEdgeTest {
  private static final Check check = new Check();

  public static void main(String[] args) {
    togetherOfNone();
    togetherOfTwo();
    togetherOfEight();
    eachPairOfPeriods();
    meetsItself();
    meetsNowAndJustBehind();
    never();
    shiningOrNot();
    lengthsCountForNothing();
    meetsOthersAlone();
    apartOfFew();
    apartOfAll();
    check.end();
  }

  private static void togetherOfNone() {
    check.same("21: '1 without lamps'", new PulseLoom().together(), 1);
    for (int period = 2; period <= 20; period++) {
      check.same("21: one lamp", Looms.withPeriods(period).together(), period);
    }
  }

  /** "the smallest number that all periods divide": counted up from 1. */
  private static void togetherOfTwo() {
    for (int one = 2; one <= 20; one++) {
      for (int other = 2; other <= 20; other++) {
        int smallest = 1;
        while (smallest % one != 0 || smallest % other != 0) {
          smallest++;
        }
        check.same("21: " + one + " and " + other, Looms.withPeriods(one, other).together(), smallest);
      }
    }
  }

  private static void togetherOfEight() {
    check.same("21: the greatest there is", Looms.withPeriods(16, 9, 5, 7, 11, 13, 17, 19).together(), 232792560L);
    check.same("21: the other way round", Looms.withPeriods(19, 17, 13, 11, 7, 5, 9, 16).together(), 232792560L);
    check.same("21: the least of eight", Looms.withPeriods(2, 2, 2, 2, 2, 2, 2, 2).together(), 2);
    check.same("21: one that others hold", Looms.withPeriods(20, 18, 12, 10, 6, 5, 4, 3).together(), 180);
    PulseLoom loom = Looms.withPeriods(4, 4);
    loom.setShift(1, 1);
    loom.pass(3);
    check.same("21: periods alone count", loom.together(), 4);
  }

  private static int divisorDue(int one, int other) {
    int greatest = 0;
    for (int number = 1; number <= 20; number++) {
      if (one % number == 0 && other % number == 0) {
        greatest = number;
      }
    }
    return greatest;
  }

  /** The first of 400 beats, twenty times twenty, in which both phases are 0; -1 if there is none. */
  private static int waitDue(int one, int shift, int other) {
    for (int beat = 0; beat < 400; beat++) {
      if ((beat + shift) % one == 0 && beat % other == 0) {
        return beat;
      }
    }
    return -1;
  }

  /** Each two periods with each shift of the first: whether they meet, when, and what divides them. */
  private static void eachPairOfPeriods() {
    for (int one = 2; one <= 20; one++) {
      for (int other = 2; other <= 20; other++) {
        PulseLoom loom = Looms.withPeriods(one, other);
        check.same("22: " + one + ", " + other, loom.divisor(0, 1), divisorDue(one, other));
        for (int shift = 0; shift < one; shift++) {
          loom.setShift(0, shift);
          pairOfPeriods(loom, one + " with " + shift + ", " + other, waitDue(one, shift, other));
        }
      }
    }
  }

  private static void pairOfPeriods(PulseLoom loom, String where, int wait) {
    check.same("23: " + where, loom.meet(0, 1), wait >= 0);
    check.same("23: other way, " + where, loom.meet(1, 0), wait >= 0);
    check.same("24: " + where, loom.beatsUntilMeet(0, 1), wait);
    check.same("24: other way, " + where, loom.beatsUntilMeet(1, 0), wait);
    check.same("25: " + where, loom.meets(0) * 10 + loom.meets(1), wait >= 0 ? 11 : 0);
    check.same("26: " + where, loom.apart(), wait >= 0 ? 0 : 1);
  }

  /** "a lamp meets itself": when it lights up next. */
  private static void meetsItself() {
    PulseLoom loom = Looms.withPeriods(2, 20);
    loom.setLimit(0);
    check.same("23: itself, period 2", loom.meet(0, 0), true);
    check.same("23: itself, period 20", loom.meet(1, 1), true);
    check.same("22: itself, period 2", loom.divisor(0, 0), 2);
    check.same("22: itself, period 20", loom.divisor(1, 1), 20);
    check.same("24: itself, in this beat", loom.beatsUntilMeet(1, 1), 0);
    loom.pass(1);
    check.same("24: itself, a beat behind", loom.beatsUntilMeet(1, 1), 19);
    loom.pass(18);
    check.same("24: itself, a beat ahead", loom.beatsUntilMeet(1, 1), 1);
    loom.pass(1);
    check.same("24: itself, in this beat again", loom.beatsUntilMeet(1, 1), 0);
  }

  /** "0 if in this one": and a whole round less 1 in the beat behind it. */
  private static void meetsNowAndJustBehind() {
    PulseLoom loom = Looms.withPeriods(20, 19);
    check.same("24: in this beat", loom.beatsUntilMeet(0, 1), 0);
    loom.pass(1);
    check.same("24: 380 less 1", loom.beatsUntilMeet(0, 1), 379);
    check.same("24: 380 less 1, other way", loom.beatsUntilMeet(1, 0), 379);
    loom.pass(200);
    loom.pass(178);
    check.same("24: 1", loom.beatsUntilMeet(0, 1), 1);
    loom.pass(1);
    check.same("24: in beat 380", loom.beatsUntilMeet(0, 1), 0);
    loom.pass(1);
    loom.setShift(0, 19);
    loom.setShift(1, 18);
    check.same("24: by their shifts, in this beat", loom.beatsUntilMeet(0, 1), 0);
  }

  private static void never() {
    PulseLoom loom = Looms.withPeriods(20, 20, 10, 2);
    loom.setShift(1, 10);
    check.same("24: '-1 if never'", loom.beatsUntilMeet(0, 1), -1);
    check.same("23: never", loom.meet(0, 1), false);
    check.same("24: the third meets the first", loom.beatsUntilMeet(2, 0), 0);
    loom.pass(1);
    check.same("24: never, a beat later", loom.beatsUntilMeet(1, 0), -1);
    check.same("24: the third meets the second first", loom.beatsUntilMeet(2, 1), 9);
    check.same("24: the third meets the first later", loom.beatsUntilMeet(2, 0), 19);
    loom.setShift(3, 1);
    check.same("24: even and odd, never", loom.beatsUntilMeet(3, 2), -1);
    check.same("26: the last meets none, the first two not each other", loom.apart(), 4);
  }

  /** "if both light up in it, shining or not". */
  private static void shiningOrNot() {
    PulseLoom loom = Looms.withPowers(9, 9);
    for (int limit : new int[] {0, 9, 17, 18}) {
      loom.setLimit(limit);
      check.same("23: limit " + limit, loom.meet(0, 1), true);
      check.same("24: limit " + limit, loom.beatsUntilMeet(0, 1), 0);
      check.same("25: limit " + limit, loom.meets(1), 1);
      check.same("26: limit " + limit, loom.apart(), 0);
    }
  }

  private static void lengthsCountForNothing() {
    PulseLoom loom = Looms.withPeriods(4, 4);
    loom.setShift(1, 1);
    loom.setLength(0, 3);
    loom.setLength(1, 3);
    check.same("13: both due", loom.isDue(0) && loom.isDue(1), true);
    check.same("23: due together, but never lit up together", loom.meet(0, 1), false);
    check.same("24: due together, but never lit up together", loom.beatsUntilMeet(0, 1), -1);
  }

  /** "how many other lamps it meets": itself is none of them. */
  private static void meetsOthersAlone() {
    check.same("25: alone", Looms.withPeriods(20).meets(0), 0);
    PulseLoom loom = Looms.withPeriods(8, 8, 8, 8, 8, 8, 8, 8);
    for (int lamp = 0; lamp < 8; lamp++) {
      check.same("25: all seven others, lamp " + lamp, loom.meets(lamp), 7);
    }
    for (int lamp = 0; lamp < 8; lamp++) {
      loom.setShift(lamp, lamp);
      check.same("25: the first and this one, " + lamp, loom.meets(lamp), lamp == 0 ? 7 : 0);
    }
    loom.setShift(7, 6);
    check.same("25: lamp 6 meets the last", loom.meets(6), 1);
    check.same("25: lamp 5 meets none", loom.meets(5), 0);
  }

  private static void apartOfFew() {
    check.same("26: without lamps", new PulseLoom().apart(), 0);
    check.same("26: one lamp is no pair", Looms.withPeriods(4).apart(), 0);
    PulseLoom loom = Looms.withPeriods(4, 4);
    check.same("26: a pair that meets", loom.apart(), 0);
    loom.setShift(0, 3);
    check.same("26: a pair that never meets, counted once", loom.apart(), 1);
  }

  private static void apartOfAll() {
    PulseLoom loom = Looms.withPeriods(8, 8, 8, 8, 8, 8, 8, 8);
    int[] due = {0, 7, 13, 18, 22, 25, 27, 28};
    for (int lamp = 0; lamp < 8; lamp++) {
      loom.setShift(lamp, lamp);
      check.same("26: up to lamp " + lamp + " shifted", loom.apart(), due[lamp]);
    }
    check.same("26: all 28 pairs meet", Looms.withPeriods(2, 4, 8, 16, 3, 9, 5, 20).apart(), 0);
  }
}
