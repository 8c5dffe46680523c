import java.util.List;

/** The edges that the document names under the promises 27 to 33. */
public final class ForecastEdgeTest {
  private static final Check check = new Check();

  public static void main(String[] args) {
    bestShiftOfSeveralTheSmallest();
    bestShiftTheGreatest();
    bestShiftWhenNoneIsFree();
    bestShiftLooksAtOthersAlone();
    dueInEnds();
    dueInFromEachPhase();
    brightestEnds();
    brightestUnderTheLimit();
    unfairnessInEnds();
    unfairnessInAddsToTheCounts();
    limitWantedEnds();
    limitWantedLeastAndMost();
    limitWantedIsJustEnough();
    meanOfNone();
    meanOfSome();
    digestOfNone();
    digestOfEight();
    check.end();
  }

  /** "of several the smallest": 0 if all are alike, whatever the shift of the lamp is now. */
  private static void bestShiftOfSeveralTheSmallest() {
    for (int shift = 0; shift < 20; shift++) {
      PulseLoom alone = Looms.withPeriods(20);
      alone.setShift(0, shift);
      check.same("27: alone with " + shift, alone.bestShift(0), 0);
      PulseLoom two = Looms.withPeriods(20, 20);
      two.setShift(0, shift);
      check.same("27: beside one of shift 0, with " + shift, two.bestShift(0), 1);
      check.same("16: nothing is changed", two.shiftOf(0), shift);
    }
    check.same("27: coprime, all alike", Looms.withPeriods(20, 19, 3).bestShift(1), 0);
    PulseLoom gap = Looms.withPeriods(5, 5, 5, 5);
    gap.setShift(1, 1);
    gap.setShift(2, 3);
    check.same("27: 2 ahead of 4", gap.bestShift(3), 2);
  }

  /** "0 to the period less 1": the last shift is looked at too. */
  private static void bestShiftTheGreatest() {
    for (int period = 2; period <= 8; period++) {
      int[] periods = new int[period];
      java.util.Arrays.fill(periods, period);
      PulseLoom loom = Looms.withPeriods(periods);
      for (int lamp = 1; lamp < period; lamp++) {
        loom.setShift(lamp, lamp - 1);
      }
      check.same("27: only the last is free, period " + period, loom.bestShift(0), period - 1);
      loom.setShift(1, period - 1);
      check.same("27: only the first is free, period " + period, loom.bestShift(0), 0);
    }
  }

  /** "the fewest other lamps": the fewest, if there is none with which it meets no other. */
  private static void bestShiftWhenNoneIsFree() {
    PulseLoom loom = Looms.withPeriods(2, 2, 2, 2);
    check.same("27: three of shift 0", loom.bestShift(3), 1);
    loom.setShift(0, 1);
    check.same("27: one of shift 1, two of 0", loom.bestShift(3), 1);
    loom.setShift(1, 1);
    check.same("27: two of shift 1, one of 0", loom.bestShift(3), 0);
    PulseLoom full = Looms.withPeriods(3, 3, 3, 3, 3, 3, 3, 3);
    for (int lamp = 0; lamp < 7; lamp++) {
      full.setShift(lamp, lamp % 3);
    }
    check.same("27: 3, 2 and 2 of seven", full.bestShift(7), 1);
  }

  /** The lamp's own shift is no reason to keep clear of it. */
  private static void bestShiftLooksAtOthersAlone() {
    PulseLoom loom = Looms.withPeriods(4, 4);
    loom.setShift(1, 2);
    check.same("27: its own shift, 0, is free", loom.bestShift(0), 0);
    loom.setLimit(0);
    loom.pass(3);
    check.same("27: whatever the beat and the limit are", loom.bestShift(0), 0);
    for (int lamp = 0; lamp < 8; lamp++) {
      int asked = lamp;
      check.unchanged("27: 'nothing is changed'", () -> Looms.busy(8), busy -> busy.bestShift(asked));
    }
  }

  private static void dueInEnds() {
    PulseLoom loom = Looms.withPeriods(2, 20);
    loom.setLength(1, 19);
    loom.setLimit(0);
    check.same("28: 1", loom.dueIn(0, 1), 1);
    check.same("28: 2", loom.dueIn(0, 2), 1);
    check.same("28: 99999", loom.dueIn(0, 99999), 50000);
    check.same("28: 100000", loom.dueIn(0, 100000), 50000);
    check.same("28: 1, length 19", loom.dueIn(1, 1), 1);
    check.same("28: 100000, length 19", loom.dueIn(1, 100000), 95000);
    loom.pass(19);
    check.same("28: 1, phase 19", loom.dueIn(1, 1), 0);
    check.same("28: 2, phase 19", loom.dueIn(1, 2), 1);
    check.same("28: 99999, phase 19", loom.dueIn(1, 99999), 94999);
    check.refusedOutside("28: 'beats is not 1 to 100000'", 1, 100000, () -> Looms.busy(8),
        (busy, beats) -> busy.dueIn(7, beats));
    for (int beats : Looms.ends(1, 100000)) {
      check.unchanged("28: 'nothing is changed'", () -> Looms.busy(8), busy -> busy.dueIn(0, beats));
    }
  }

  /** From each phase, up to three rounds: one beat more counts 1, if its phase is less than the length. */
  private static void dueInFromEachPhase() {
    int[][] kinds = {{2, 1}, {3, 1}, {3, 2}, {7, 3}, {20, 1}, {20, 10}, {20, 19}};
    for (int[] kind : kinds) {
      PulseLoom loom = Looms.withPeriods(kind[0]);
      loom.setLength(0, kind[1]);
      for (int phase = 0; phase < kind[0]; phase++) {
        int due = 0;
        for (int beats = 1; beats <= 3 * kind[0]; beats++) {
          due += (phase + beats - 1) % kind[0] < kind[1] ? 1 : 0;
          check.same("28: " + kind[1] + " of " + kind[0] + " from " + phase, loom.dueIn(0, beats), due);
        }
        loom.pass(1);
      }
    }
  }

  /** A lamp that is due once in 20 beats beside one that is due once in 19: both next in beat 380. */
  private static PulseLoom bothInBeat380(int beat) {
    PulseLoom loom = Looms.withPeriods(20, 19);
    loom.pass(100);
    loom.pass(beat - 100);
    return loom;
  }

  /** Asks what would be in so many beats. */
  private interface Forecast {
    int in(PulseLoom loom, int beats);
  }

  /** The first of the next ones is this beat, and the last is the one that many beats less 1 on. */
  private static void fromThisBeatOn(String what, Forecast asked) {
    check.same(what + " 1, this beat", asked.in(bothInBeat380(200), 1), 1);
    check.same(what + " 1, none due", asked.in(bothInBeat380(201), 1), 0);
    check.same(what + " 2, the next alone", asked.in(bothInBeat380(199), 2), 1);
    check.same(what + " 199, up to beat 379", asked.in(bothInBeat380(181), 199), 1);
    check.same(what + " 199, up to beat 380", asked.in(bothInBeat380(182), 199), 2);
    check.same(what + " 200, up to beat 379", asked.in(bothInBeat380(180), 200), 1);
    check.same(what + " 200, up to beat 380", asked.in(bothInBeat380(181), 200), 2);
  }

  private static void takesOneTo200(String what, Forecast asked) {
    check.refusedOutside(what + " 'beats is not 1 to 200'", 1, 200, () -> Looms.busy(8), asked::in);
    check.refusedOutside(what + " the same, without lamps", 1, 200, PulseLoom::new, asked::in);
    for (int beats : Looms.ends(1, 200)) {
      check.same(what + " without lamps, " + beats, asked.in(new PulseLoom(), beats), 0);
      check.unchanged(what + " 'nothing is changed'", () -> Looms.busy(8), loom -> asked.in(loom, beats));
    }
  }

  private static void brightestEnds() {
    fromThisBeatOn("29:", PulseLoom::brightest);
    takesOneTo200("29:", PulseLoom::brightest);
  }

  /** "power": of those that shine, not of those that are due. */
  private static void brightestUnderTheLimit() {
    PulseLoom loom = Looms.withPowers(9, 8, 4);
    int[][] due = {{0, 0}, {3, 0}, {4, 4}, {8, 8}, {9, 9}, {13, 13}, {16, 13}, {17, 17}, {20, 17}, {21, 21}, {99, 21}};
    for (int[] row : due) {
      loom.setLimit(row[0]);
      check.same("29: limit " + row[0], loom.brightest(200), row[1]);
    }
  }

  private static void unfairnessInEnds() {
    for (int beats : Looms.ends(1, 200)) {
      PulseLoom passed = Looms.busy(8);
      passed.pass(beats);
      check.same("30: " + beats, Looms.busy(8).unfairnessIn(beats), passed.unfairness());
    }
    check.same("30: one colour", Looms.withPeriods(2, 3).unfairnessIn(200), 0);
    takesOneTo200("30:", PulseLoom::unfairnessIn);
  }

  /** "unfairness() behind them": with what was counted up to now; the first of them is this beat. */
  private static void unfairnessInAddsToTheCounts() {
    PulseLoom loom = new PulseLoom();
    loom.addLamp(1, 4, 1, 1);
    loom.addLamp(3, 4, 3, 1);
    check.same("30: 1 less 1", loom.unfairnessIn(1), 0);
    check.same("30: 2 less 1", loom.unfairnessIn(2), 1);
    check.same("30: 3 less 1", loom.unfairnessIn(3), 2);
    check.same("30: 3 less 1, none more", loom.unfairnessIn(4), 2);
    check.same("30: 4 less 2", loom.unfairnessIn(5), 2);
    loom.pass(3);
    check.same("30: 3 less 1, none due in this beat", loom.unfairnessIn(1), 2);
    check.same("30: 3 and 3 less 1 and 1", loom.unfairnessIn(4), 4);
    loom.setLimit(0);
    check.same("30: none shines any more", loom.unfairnessIn(200), 2);
    loom.setLimit(1);
    check.same("30: 3 and 100 less 1 and 50, one at a time", loom.unfairnessIn(200), 52);
    loom.setShift(0, 1);
    check.same("30: 3 and 150 less 1 and 50, never both due", loom.unfairnessIn(200), 102);
  }

  private static void limitWantedEnds() {
    fromThisBeatOn("31:", PulseLoom::limitWanted);
    takesOneTo200("31:", PulseLoom::limitWanted);
  }

  private static void limitWantedLeastAndMost() {
    PulseLoom loom = Looms.withPowers(9, 9, 9, 9, 9, 9, 9, 9);
    for (int limit : new int[] {0, 71, 72, 99}) {
      loom.setLimit(limit);
      check.same("31: eight of the power 9, whatever the limit " + limit, loom.limitWanted(1), 72);
    }
    loom.pass(1);
    check.same("31: none due", loom.limitWanted(1), 0);
    check.same("31: all due in the next beat", loom.limitWanted(2), 72);
  }

  /** "the least limit": with it no lamp stays dark, with one less some lamp does. */
  private static void limitWantedIsJustEnough() {
    for (int beats : new int[] {1, 2, 7, 199, 200}) {
      int wanted = Looms.busy(8).limitWanted(beats);
      PulseLoom enough = Looms.busy(8);
      enough.setLimit(wanted);
      check.same("31: " + wanted + " for " + beats, enough.pass(beats), 0);
      PulseLoom tooLittle = Looms.busy(8);
      tooLittle.setLimit(wanted - 1);
      check.same("31: one less for " + beats, tooLittle.pass(beats) > 0, true);
    }
  }

  private static void meanOfNone() {
    PulseLoom loom = new PulseLoom();
    check.sameDouble("32: '0 without any'", loom.meanShone(), 0.0);
    loom.pass(200);
    check.sameDouble("32: '0 without any', later", loom.meanShone(), 0.0);
  }

  private static void meanOfSome() {
    PulseLoom loom = Looms.withPeriods(2);
    loom.pass(5);
    check.sameDouble("32: one", loom.meanShone(), 3.0);
    for (int lamps = 2; lamps <= 8; lamps++) {
      loom.addLamp(0, 20, 1, 1);
      check.sameDouble("32: 3 of " + lamps, loom.meanShone(), 3.0 / lamps);
    }
    loom.setLimit(0);
    loom.pass(200);
    check.sameDouble("32: dark beats not", loom.meanShone(), 0.375);
  }

  private static void digestOfNone() {
    List<Long> numbers = List.of(0L, 0L, 20L, 0L, 0L, 1L, 0L, 0L, 0L, 0L, 0L, 0L, 0L, 0L, 0L, 0L);
    check.same("33: a new object", new PulseLoom().digest(), Digest.cutAtTheEnd(numbers));
    PulseLoom loom = new PulseLoom();
    loom.setLimit(99);
    loom.pass(200);
    check.same("33: without lamps, later", loom.digest(), Digest.cutAtTheEnd(Digest.numbersOf(loom)));
  }

  private static void digestOfEight() {
    for (int lamps = 1; lamps <= 8; lamps++) {
      PulseLoom loom = Looms.busy(lamps);
      check.same("33: with " + lamps, loom.digest(), Digest.cutAtTheEnd(Digest.numbersOf(loom)));
    }
    PulseLoom apart = Looms.withPeriods(8, 8, 8, 8, 8, 8, 8, 8);
    for (int lamp = 0; lamp < 8; lamp++) {
      apart.setShift(lamp, lamp);
    }
    check.same("33: -1 of those that never meet", apart.digest(), Digest.cutAtTheEnd(Digest.numbersOf(apart)));
    check.unchanged("33: nothing is changed", () -> Looms.busy(8), PulseLoom::digest);
  }
}
