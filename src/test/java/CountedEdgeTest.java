/** The edges that the document names under 'A beat goes like this' and under the promises 17 to 20. */
public final class CountedEdgeTest {
  private static final Check check = new Check();

  public static void main(String[] args) {
    eachBeatIsCountedOnce();
    countsStayWhenALampIsChanged();
    refusedPassCountsNothing();
    seenOutside();
    seenOfEachColour();
    seenOfNone();
    seenIsOfThoseThatHaveItNow();
    unfairnessOfNone();
    unfairnessOfOneColour();
    unfairnessOfAllSix();
    unfairnessLooksPastColoursNobodyHas();
    unfairnessOfAColourNeverSeen();
    unfairnessAddsLampsOfOneColour();
    unfairnessBehindASwap();
    check.end();
  }

  /** Not due, shone and dark: of each beat just one counts, and the one of the beat that has gone by. */
  private static void eachBeatIsCountedOnce() {
    PulseLoom loom = Looms.withPowers(5, 5);
    loom.setLimit(9);
    String[] due = {"0 0 | 0 0", "1 0 | 0 1", "1 0 | 0 1", "2 0 | 0 2"};
    for (String counts : due) {
      String got = loom.shone(0) + " " + loom.stayedDark(0) + " | " + loom.shone(1) + " " + loom.stayedDark(1);
      check.sameText("17, 18: beat " + loom.beat(), got, counts);
      loom.pass(1);
    }
  }

  private static void countsStayWhenALampIsChanged() {
    PulseLoom loom = Looms.withPowers(5, 5);
    loom.setLimit(5);
    loom.pass(10);
    loom.setShift(0, 1);
    loom.setShift(1, 1);
    loom.setLimit(99);
    loom.addLamp(1, 3, 1, 1);
    check.same("17: lamp 0", loom.shone(0), 5);
    check.same("18: lamp 0", loom.stayedDark(0), 0);
    check.same("17: lamp 1", loom.shone(1), 0);
    check.same("18: lamp 1", loom.stayedDark(1), 5);
    loom.pass(1);
    check.same("17: lamp 0 is not due in an even beat now", loom.shone(0), 5);
    loom.pass(1);
    check.same("17: lamp 0 in an odd one", loom.shone(0), 6);
    check.same("17: lamp 1 in an odd one", loom.shone(1), 1);
    check.same("18: lamp 1, none more", loom.stayedDark(1), 5);
  }

  private static void refusedPassCountsNothing() {
    for (int beats : new int[] {0, 201}) {
      PulseLoom loom = Looms.withPowers(5);
      try {
        loom.pass(beats);
        check.same("7: refused", false, true);
      } catch (IllegalArgumentException e) {
        check.same("17: behind a refused pass(" + beats + ")", loom.shone(0), 0);
        check.same("8: behind a refused pass(" + beats + ")", loom.beat(), 0);
      }
    }
  }

  private static void seenOutside() {
    check.refusedOutside("19: 'colour is not 0 to 5'", 0, 5, () -> Looms.busy(8), PulseLoom::seen);
    check.refusedOutside("19: the same, without lamps", 0, 5, PulseLoom::new, PulseLoom::seen);
  }

  /** One lamp of each colour: the lamp of the colour c is due in c + 1 beats of 7. */
  private static PulseLoom sixColours() {
    PulseLoom loom = new PulseLoom();
    for (int colour = 0; colour < 6; colour++) {
      loom.addLamp(colour, 7, colour + 1, 1);
    }
    return loom;
  }

  private static void seenOfEachColour() {
    PulseLoom loom = sixColours();
    loom.pass(14);
    for (int colour = 0; colour < 6; colour++) {
      check.same("19: colour " + colour, loom.seen(colour), 2 * (colour + 1));
    }
  }

  private static void seenOfNone() {
    PulseLoom loom = Looms.withPowers(1);
    loom.pass(4);
    check.same("19: that one lamp has", loom.seen(0), 2);
    for (int colour = 1; colour < 6; colour++) {
      check.same("19: that no lamp has, " + colour, loom.seen(colour), 0);
      check.same("19: without lamps, " + colour, new PulseLoom().seen(colour), 0);
    }
  }

  /** "what lamps that have it now shone, added": under an earlier colour too, and dark beats not. */
  private static void seenIsOfThoseThatHaveItNow() {
    PulseLoom loom = new PulseLoom();
    loom.addLamp(0, 4, 3, 1);
    loom.addLamp(5, 4, 1, 1);
    loom.addLamp(0, 4, 2, 1);
    loom.pass(4);
    check.same("19: 3 and 2", loom.seen(0), 5);
    check.same("19: 1", loom.seen(5), 1);
    loom.swapColours(0, 1);
    check.same("19: 1 and 2", loom.seen(0), 3);
    check.same("19: 3", loom.seen(5), 3);
    loom.setLimit(1);
    loom.pass(4);
    check.same("19: 1 and 2, and none that stayed dark", loom.seen(0), 3);
    check.same("19: 3 and 3", loom.seen(5), 6);
  }

  private static void unfairnessOfNone() {
    PulseLoom loom = new PulseLoom();
    check.same("20: '0 without lamps'", loom.unfairness(), 0);
    loom.pass(200);
    check.same("20: '0 without lamps', later", loom.unfairness(), 0);
  }

  private static void unfairnessOfOneColour() {
    PulseLoom loom = new PulseLoom();
    loom.addLamp(5, 4, 3, 1);
    check.same("20: one lamp, not seen", loom.unfairness(), 0);
    loom.pass(8);
    check.same("20: one lamp", loom.unfairness(), 0);
    loom.addLamp(5, 4, 1, 1);
    check.same("20: two of one colour", loom.unfairness(), 0);
  }

  private static void unfairnessOfAllSix() {
    PulseLoom loom = sixColours();
    check.same("20: all six, at first", loom.unfairness(), 0);
    loom.pass(1);
    check.same("20: all six alike", loom.unfairness(), 0);
    loom.pass(1);
    check.same("20: all but one alike", loom.unfairness(), 1);
    loom.pass(12);
    check.same("20: 12 less 2", loom.unfairness(), 10);
    loom.swapColours(0, 5);
    check.same("20: whichever has them", loom.unfairness(), 10);
  }

  /** "of those that lamps have": a colour that no lamp has is not one that is seen in 0 beats. */
  private static void unfairnessLooksPastColoursNobodyHas() {
    PulseLoom loom = new PulseLoom();
    loom.addLamp(1, 4, 3, 1);
    loom.addLamp(4, 4, 2, 1);
    loom.pass(40);
    check.same("20: 30 less 20", loom.unfairness(), 10);
  }

  private static void unfairnessOfAColourNeverSeen() {
    for (int colour : new int[] {0, 1, 5}) {
      PulseLoom loom = new PulseLoom();
      loom.addLamp(2, 4, 3, 1);
      loom.pass(40);
      check.same("20: alone", loom.unfairness(), 0);
      loom.addLamp(colour, 4, 3, 1);
      check.same("20: with a new colour, " + colour, loom.unfairness(), 30);
      PulseLoom dark = new PulseLoom();
      dark.addLamp(2, 4, 3, 1);
      dark.addLamp(colour, 4, 3, 1);
      dark.setLimit(1);
      dark.pass(40);
      check.same("20: with a colour always dark, " + colour, dark.unfairness(), 30);
    }
  }

  private static void unfairnessAddsLampsOfOneColour() {
    PulseLoom loom = new PulseLoom();
    loom.addLamp(3, 4, 1, 1);
    loom.addLamp(0, 4, 3, 1);
    loom.addLamp(3, 4, 2, 1);
    loom.pass(4);
    check.same("20: 1 and 2 less 3", loom.unfairness(), 0);
    loom.addLamp(3, 4, 3, 1);
    loom.pass(4);
    check.same("20: 2, 4 and 3 less 6", loom.unfairness(), 3);
  }

  private static void unfairnessBehindASwap() {
    PulseLoom loom = new PulseLoom();
    loom.addLamp(0, 4, 3, 1);
    loom.addLamp(0, 4, 2, 1);
    loom.addLamp(1, 4, 1, 1);
    loom.pass(4);
    check.same("20: 5 less 1", loom.unfairness(), 4);
    loom.swapColours(0, 2);
    check.same("20: 3 less 3", loom.unfairness(), 0);
  }
}
