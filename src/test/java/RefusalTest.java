/** Wrong inputs: which exception is thrown, which of several comes first, and that nothing is changed by it. */
public final class RefusalTest {
  private static final Check check = new Check();
  private static final Class<?> ARGUMENT = IllegalArgumentException.class;
  private static final Class<?> INDEX = IndexOutOfBoundsException.class;
  private static final Class<?> STATE = IllegalStateException.class;
  private static final int[] WRONG_LAMPS = {-1, 3, 8, Integer.MIN_VALUE, Integer.MAX_VALUE};

  public static void main(String[] args) {
    addLamp();
    addLampToEight();
    setShift();
    setLength();
    swapColours();
    setLimit();
    beats();
    seen();
    dueIn();
    oneLamp();
    twoLamps();
    noLamps();
    check.end();
  }

  /** Three lamps, some beats along, with counts of both kinds. */
  private static PulseLoom three() {
    PulseLoom loom = new PulseLoom();
    loom.addLamp(0, 4, 2, 9);
    loom.addLamp(1, 6, 3, 8);
    loom.addLamp(2, 3, 1, 4);
    loom.setShift(1, 1);
    loom.pass(13);
    return loom;
  }

  private static PulseLoom eight() {
    PulseLoom loom = three();
    for (int i = 0; i < 5; i++) {
      loom.addLamp(i, 5 + i, 2, 3);
    }
    return loom;
  }

  private static void refused(String what, Class<?> kind, Check.Call call) {
    check.refused(what, kind, RefusalTest::three, call);
  }

  private static void addLamp() {
    int[][] wrong = {
      {-1, 5, 2, 3}, {6, 5, 2, 3}, {Integer.MIN_VALUE, 5, 2, 3}, {Integer.MAX_VALUE, 5, 2, 3},
      {0, 1, 1, 3}, {0, 21, 2, 3}, {0, 0, 1, 3}, {0, -4, 1, 3}, {0, Integer.MIN_VALUE, 1, 3},
      {0, Integer.MAX_VALUE, 1, 3}, {0, 5, 0, 3}, {0, 5, 5, 3}, {0, 5, -1, 3}, {0, 2, 2, 3}, {0, 20, 20, 3},
      {0, 5, Integer.MAX_VALUE, 3}, {0, 5, Integer.MIN_VALUE, 3}, {0, 5, 2, 0}, {0, 5, 2, 10}, {0, 5, 2, -1},
      {0, 5, 2, Integer.MAX_VALUE}, {0, 5, 2, Integer.MIN_VALUE}, {-1, 1, 0, 0},
    };
    for (int[] w : wrong) {
      String what = "2: addLamp(" + w[0] + ", " + w[1] + ", " + w[2] + ", " + w[3] + ")";
      refused(what, ARGUMENT, loom -> loom.addLamp(w[0], w[1], w[2], w[3]));
      check.refused(what + " to eight", ARGUMENT, RefusalTest::eight, loom -> loom.addLamp(w[0], w[1], w[2], w[3]));
    }
  }

  private static void addLampToEight() {
    check.refused("2: a ninth", STATE, RefusalTest::eight, loom -> loom.addLamp(0, 5, 2, 3));
    check.refused("2: a ninth, least", STATE, RefusalTest::eight, loom -> loom.addLamp(0, 2, 1, 1));
    check.refused("2: a ninth, greatest", STATE, RefusalTest::eight, loom -> loom.addLamp(5, 20, 19, 9));
  }

  private static void setShift() {
    refused("3: -1", ARGUMENT, loom -> loom.setShift(1, -1));
    refused("3: its period", ARGUMENT, loom -> loom.setShift(1, 6));
    refused("3: its own period, not another's", ARGUMENT, loom -> loom.setShift(2, 3));
    refused("3: the greatest int", ARGUMENT, loom -> loom.setShift(0, Integer.MAX_VALUE));
    refused("3: the least int", ARGUMENT, loom -> loom.setShift(0, Integer.MIN_VALUE));
    for (int lamp : WRONG_LAMPS) {
      refused("3: lamp " + lamp, INDEX, loom -> loom.setShift(lamp, 0));
      refused("3: lamp first, " + lamp, INDEX, loom -> loom.setShift(lamp, -1));
    }
  }

  private static void setLength() {
    refused("4: 0", ARGUMENT, loom -> loom.setLength(1, 0));
    refused("4: its period", ARGUMENT, loom -> loom.setLength(1, 6));
    refused("4: its own period, not another's", ARGUMENT, loom -> loom.setLength(2, 3));
    refused("4: -1", ARGUMENT, loom -> loom.setLength(1, -1));
    refused("4: the greatest int", ARGUMENT, loom -> loom.setLength(0, Integer.MAX_VALUE));
    refused("4: the least int", ARGUMENT, loom -> loom.setLength(0, Integer.MIN_VALUE));
    for (int lamp : WRONG_LAMPS) {
      refused("4: lamp " + lamp, INDEX, loom -> loom.setLength(lamp, 1));
      refused("4: lamp first, " + lamp, INDEX, loom -> loom.setLength(lamp, 0));
    }
  }

  private static void swapColours() {
    for (int lamp = 0; lamp < 3; lamp++) {
      int same = lamp;
      refused("5: the same " + lamp, ARGUMENT, loom -> loom.swapColours(same, same));
    }
    for (int lamp : WRONG_LAMPS) {
      refused("5: one " + lamp, INDEX, loom -> loom.swapColours(lamp, 0));
      refused("5: other " + lamp, INDEX, loom -> loom.swapColours(0, lamp));
      refused("5: lamp first, " + lamp, INDEX, loom -> loom.swapColours(lamp, lamp));
    }
  }

  private static void setLimit() {
    for (int limit : new int[] {-1, 100, Integer.MIN_VALUE, Integer.MAX_VALUE}) {
      refused("6: " + limit, ARGUMENT, loom -> loom.setLimit(limit));
    }
  }

  private static void beats() {
    for (int beats : new int[] {0, -1, 201, Integer.MIN_VALUE, Integer.MAX_VALUE}) {
      refused("7: pass " + beats, ARGUMENT, loom -> loom.pass(beats));
      refused("29: brightest " + beats, ARGUMENT, loom -> loom.brightest(beats));
      refused("30: unfairnessIn " + beats, ARGUMENT, loom -> loom.unfairnessIn(beats));
      refused("31: limitWanted " + beats, ARGUMENT, loom -> loom.limitWanted(beats));
    }
  }

  private static void seen() {
    for (int colour : new int[] {-1, 6, Integer.MIN_VALUE, Integer.MAX_VALUE}) {
      refused("19: " + colour, ARGUMENT, loom -> loom.seen(colour));
    }
  }

  private static void dueIn() {
    for (int beats : new int[] {0, -1, 100001, Integer.MIN_VALUE, Integer.MAX_VALUE}) {
      refused("28: " + beats, ARGUMENT, loom -> loom.dueIn(0, beats));
    }
    for (int lamp : WRONG_LAMPS) {
      refused("28: lamp " + lamp, INDEX, loom -> loom.dueIn(lamp, 1));
      refused("28: lamp first, " + lamp, INDEX, loom -> loom.dueIn(lamp, 0));
    }
  }

  private static void oneLamp() {
    for (int lamp : WRONG_LAMPS) {
      refused("12: phaseOf " + lamp, INDEX, loom -> loom.phaseOf(lamp));
      refused("13: isDue " + lamp, INDEX, loom -> loom.isDue(lamp));
      refused("14: shines " + lamp, INDEX, loom -> loom.shines(lamp));
      refused("15: colourOf " + lamp, INDEX, loom -> loom.colourOf(lamp));
      refused("16: shiftOf " + lamp, INDEX, loom -> loom.shiftOf(lamp));
      refused("17: shone " + lamp, INDEX, loom -> loom.shone(lamp));
      refused("18: stayedDark " + lamp, INDEX, loom -> loom.stayedDark(lamp));
      refused("25: meets " + lamp, INDEX, loom -> loom.meets(lamp));
      refused("27: bestShift " + lamp, INDEX, loom -> loom.bestShift(lamp));
    }
  }

  private static void twoLamps() {
    for (int lamp : WRONG_LAMPS) {
      refused("22: divisor one " + lamp, INDEX, loom -> loom.divisor(lamp, 0));
      refused("22: divisor other " + lamp, INDEX, loom -> loom.divisor(0, lamp));
      refused("22: divisor both " + lamp, INDEX, loom -> loom.divisor(lamp, lamp));
      refused("23: meet one " + lamp, INDEX, loom -> loom.meet(lamp, 0));
      refused("23: meet other " + lamp, INDEX, loom -> loom.meet(0, lamp));
      refused("23: meet both " + lamp, INDEX, loom -> loom.meet(lamp, lamp));
      refused("24: beatsUntilMeet one " + lamp, INDEX, loom -> loom.beatsUntilMeet(lamp, 0));
      refused("24: beatsUntilMeet other " + lamp, INDEX, loom -> loom.beatsUntilMeet(0, lamp));
      refused("24: beatsUntilMeet both " + lamp, INDEX, loom -> loom.beatsUntilMeet(lamp, lamp));
    }
  }

  private static void noLamps() {
    check.refused("1: phaseOf(0)", INDEX, PulseLoom::new, loom -> loom.phaseOf(0));
    check.refused("1: meet(0, 0)", INDEX, PulseLoom::new, loom -> loom.meet(0, 0));
    check.refused("1: bestShift(0)", INDEX, PulseLoom::new, loom -> loom.bestShift(0));
    check.refused("1: setShift(0, 0)", INDEX, PulseLoom::new, loom -> loom.setShift(0, 0));
  }
}
