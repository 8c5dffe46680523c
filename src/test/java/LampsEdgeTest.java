/** The edges that the document names under 'Terms' and under the promises 1 to 7, sentence by sentence. */
public final class LampsEdgeTest {
  private static final Check check = new Check();
  private static final Class<?> ARGUMENT = IllegalArgumentException.class;
  private static final Class<?> STATE = IllegalStateException.class;

  public static void main(String[] args) {
    newObject();
    colours();
    periods();
    lengths();
    powers();
    ninthLamp();
    argumentIsNamedAheadOfTheNinth();
    refusedLampTakesNoNumber();
    lampAddedLate();
    shifts();
    shiftOutside();
    lengthsSet();
    lengthOutside();
    swapOfTheSame();
    swapOfSameColour();
    limits();
    beatsPassed();
    beatsWithSomeDark();
    check.end();
  }

  private static void newObject() {
    PulseLoom loom = new PulseLoom();
    check.same("1: 'without lamps'", loom.lamps(), 0);
    check.same("1: 'at the beat 0'", loom.beat(), 0);
    check.same("Terms: limit '20, at first'", loom.limit(), 20);
    check.same("1: no power", loom.power(), 0);
    check.same("1: no apart", loom.apart(), 0);
    for (int colour = 0; colour < 6; colour++) {
      check.same("1: colour " + colour + " not seen", loom.seen(colour), 0);
    }
  }

  private static void refusedLamp(String what, int colour, int period, int length, int power) {
    String call = what + ": addLamp(" + colour + ", " + period + ", " + length + ", " + power + ")";
    for (int lamps : new int[] {0, 1, 7, 8}) {
      check.refused(call + " with " + lamps, ARGUMENT, () -> Looms.busy(lamps),
          loom -> loom.addLamp(colour, period, length, power));
    }
  }

  private static void colours() {
    for (int colour : Looms.ends(0, 5)) {
      PulseLoom loom = new PulseLoom();
      check.same("2: colour " + colour, loom.addLamp(colour, 5, 2, 3), 0);
      check.same("2: colourOf, colour " + colour, loom.colourOf(0), colour);
    }
    for (int colour : new int[] {-1, 6, Integer.MIN_VALUE, Integer.MAX_VALUE}) {
      refusedLamp("2: 'colour is not 0 to 5'", colour, 5, 2, 3);
    }
  }

  private static void periods() {
    for (int period : Looms.ends(2, 20)) {
      PulseLoom loom = new PulseLoom();
      check.same("2: period " + period, loom.addLamp(0, period, 1, 3), 0);
      check.same("2: together, period " + period, loom.together(), period);
    }
    // Lengths that some period allows, so that the period alone is what is refused.
    for (int length : new int[] {1, 19, 20}) {
      for (int period : new int[] {1, 0, -1, 21, 22, Integer.MIN_VALUE, Integer.MAX_VALUE}) {
        refusedLamp("2: 'period is not 2 to 20'", 0, period, length, 3);
      }
    }
  }

  private static void lengths() {
    for (int period = 2; period <= 20; period++) {
      for (int length : Looms.ends(1, period - 1)) {
        PulseLoom loom = new PulseLoom();
        check.same("2: length " + length + " of " + period, loom.addLamp(0, period, length, 3), 0);
        check.same("2: due, length " + length + " of " + period, loom.dueIn(0, period), length);
      }
      for (int length : new int[] {0, -1, period, period + 1, Integer.MIN_VALUE, Integer.MAX_VALUE}) {
        refusedLamp("2: 'length is not 1 to period - 1'", 0, period, length, 3);
      }
    }
  }

  private static void powers() {
    for (int power : Looms.ends(1, 9)) {
      PulseLoom loom = new PulseLoom();
      check.same("2: power " + power, loom.addLamp(0, 5, 2, power), 0);
      check.same("2: power(), power " + power, loom.power(), power);
    }
    for (int power : new int[] {0, -1, 10, Integer.MIN_VALUE, Integer.MAX_VALUE}) {
      refusedLamp("2: 'power is not 1 to 9'", 0, 5, 2, power);
    }
  }

  private static void ninthLamp() {
    check.same("2: the seventh", Looms.busy(6).addLamp(0, 5, 2, 3), 6);
    check.same("2: the eighth", Looms.busy(7).addLamp(0, 5, 2, 3), 7);
    check.refused("2: 'if there are 8'", STATE, () -> Looms.busy(8), loom -> loom.addLamp(0, 5, 2, 3));
    check.refused("2: 'if there are 8', the least", STATE, () -> Looms.busy(8), loom -> loom.addLamp(0, 2, 1, 1));
    check.refused("2: 'if there are 8', the most", STATE, () -> Looms.busy(8), loom -> loom.addLamp(5, 20, 19, 9));
  }

  private static void argumentIsNamedAheadOfTheNinth() {
    int[][] wrong = {{-1, 5, 2, 3}, {6, 5, 2, 3}, {0, 1, 1, 3}, {0, 21, 2, 3}, {0, 5, 0, 3}, {0, 5, 5, 3},
        {0, 5, 2, 0}, {0, 5, 2, 10}, {-1, 1, 0, 0}, {6, 21, 21, 10}};
    for (int[] w : wrong) {
      check.refused("2: argument first, " + java.util.Arrays.toString(w), ARGUMENT, () -> Looms.busy(8),
          loom -> loom.addLamp(w[0], w[1], w[2], w[3]));
    }
  }

  private static void refusedLampTakesNoNumber() {
    PulseLoom loom = Looms.busy(3);
    try {
      loom.addLamp(0, 5, 2, 10);
      check.same("2: refused", false, true);
    } catch (IllegalArgumentException e) {
      check.same("2: the next number behind a refused one", loom.addLamp(0, 5, 2, 9), 3);
    }
  }

  private static void lampAddedLate() {
    PulseLoom loom = new PulseLoom();
    loom.pass(200);
    loom.addLamp(4, 7, 3, 9);
    check.same("Terms: shift '0, at first'", loom.shiftOf(0), 0);
    check.same("Terms: phase of a late lamp", loom.phaseOf(0), 4);
    check.same("17: not shone yet", loom.shone(0), 0);
    check.same("18: not dark yet", loom.stayedDark(0), 0);
    check.same("19: not seen yet", loom.seen(4), 0);
  }

  private static void shifts() {
    for (int period = 2; period <= 20; period++) {
      PulseLoom loom = Looms.withPeriods(period, 2);
      int before = 0;
      for (int shift : Looms.ends(0, period - 1)) {
        check.same("3: 'Returns the one before', to " + shift + " of " + period, loom.setShift(0, shift), before);
        check.same("3: shiftOf " + shift + " of " + period, loom.shiftOf(0), shift);
        check.same("3: phase at once, " + shift + " of " + period, loom.phaseOf(0), shift);
        before = shift;
      }
      check.same("3: the other lamp's", loom.shiftOf(1), 0);
    }
  }

  private static void shiftOutside() {
    for (int period = 2; period <= 20; period++) {
      int itsPeriod = period;
      check.refusedOutside("3: 'not 0 to its period less 1', " + period, 0, period - 1,
          () -> Looms.withPeriods(20, itsPeriod, 2), (loom, shift) -> loom.setShift(1, shift));
    }
  }

  private static void lengthsSet() {
    for (int period = 2; period <= 20; period++) {
      PulseLoom loom = Looms.withPeriods(period, 20);
      int before = 1;
      for (int length : Looms.ends(1, period - 1)) {
        check.same("4: 'Returns the one before', to " + length + " of " + period, loom.setLength(0, length), before);
        check.same("4: due, " + length + " of " + period, loom.dueIn(0, period), length);
        before = length;
      }
      check.same("4: the other lamp's", loom.dueIn(1, 20), 1);
    }
  }

  private static void lengthOutside() {
    for (int period = 2; period <= 20; period++) {
      int itsPeriod = period;
      check.refusedOutside("4: 'not 1 to its period less 1', " + period, 1, period - 1,
          () -> Looms.withPeriods(20, itsPeriod, 2), (loom, length) -> loom.setLength(1, length));
    }
  }

  private static void swapOfTheSame() {
    for (int lamps = 1; lamps <= 8; lamps++) {
      for (int lamp = 0; lamp < lamps; lamp++) {
        int count = lamps;
        int same = lamp;
        check.refused("5: 'both lamps are the same', " + lamp + " of " + lamps, ARGUMENT, () -> Looms.busy(count),
            loom -> loom.swapColours(same, same));
      }
    }
  }

  private static void swapOfSameColour() {
    // Busy lamps 0 and 5 are both of the colour 1, and lamp 4 is of the colour 5.
    check.unchanged("5: two of the same colour", () -> Looms.busy(8), loom -> loom.swapColours(0, 5));
    PulseLoom loom = Looms.busy(8);
    check.same("5: the same colour", loom.swapColours(0, 5), false);
    check.same("5: not the same", loom.swapColours(0, 4), true);
    check.same("5: one", loom.colourOf(0), 5);
    check.same("5: other", loom.colourOf(4), 1);
    check.same("5: now the same again", loom.swapColours(4, 5), false);
    check.same("5: back, the other way round", loom.swapColours(4, 0), true);
    check.same("5: one, back", loom.colourOf(0), 1);
    check.same("5: other, back", loom.colourOf(4), 5);
  }

  private static void limits() {
    PulseLoom loom = Looms.busy(8);
    int before = 19;
    for (int limit : Looms.ends(0, 99)) {
      check.same("6: 'Returns the one before', to " + limit, loom.setLimit(limit), before);
      check.same("6: limit() " + limit, loom.limit(), limit);
      before = limit;
    }
    check.refusedOutside("6: 'limit is not 0 to 99'", 0, 99, () -> Looms.busy(8), PulseLoom::setLimit);
    check.refusedOutside("6: the same, without lamps", 0, 99, PulseLoom::new, PulseLoom::setLimit);
  }

  private static void beatsPassed() {
    for (int beats : Looms.ends(1, 200)) {
      PulseLoom loom = Looms.withPeriods(2);
      loom.pass(1);
      check.same("7: pass(" + beats + ")", loom.pass(beats), 0);
      check.same("7: 'The beat is 1 greater', " + beats + " times", loom.beat(), 1 + beats);
      check.same("7: shone, " + beats, loom.shone(0), 1 + beats / 2);
    }
    check.refusedOutside("7: 'beats is not 1 to 200'", 1, 200, () -> Looms.busy(8), PulseLoom::pass);
    check.refusedOutside("7: the same, without lamps", 1, 200, PulseLoom::new, PulseLoom::pass);
  }

  private static void beatsWithSomeDark() {
    PulseLoom loom = Looms.withPowers(5, 5, 5);
    loom.setLimit(15);
    check.same("7: all three shine", loom.pass(200), 0);
    loom.setLimit(14);
    check.same("7: one dark in each second beat", loom.pass(200), 100);
    loom.setLimit(4);
    check.same("7: all dark, each beat counted once", loom.pass(200), 100);
    check.same("7: the odd beat alone", loom.pass(1) * 10 + loom.pass(1), 10);
    check.same("7: in all", loom.stayedDark(0) * 1000 + loom.stayedDark(2), 101201);
    check.same("7: without lamps", new PulseLoom().pass(200), 0);
  }
}
