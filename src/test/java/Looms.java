/** Looms that several tests begin with, and the ends of a range. */
final class Looms {
  private Looms() {
  }

  /** Lamps of the length 1, the power 1 and the colour 0. */
  static PulseLoom withPeriods(int... periods) {
    PulseLoom loom = new PulseLoom();
    for (int period : periods) {
      loom.addLamp(0, period, 1, 1);
    }
    return loom;
  }

  /** Lamps of the period 2, all due in the beat 0 and each even one. */
  static PulseLoom withPowers(int... powers) {
    PulseLoom loom = new PulseLoom();
    for (int power : powers) {
      loom.addLamp(0, 2, 1, power);
    }
    return loom;
  }

  /** Some lamps that differ in all, some beats along, with counts of both kinds; nothing is as at first. */
  static PulseLoom busy(int lamps) {
    PulseLoom loom = new PulseLoom();
    for (int lamp = 0; lamp < lamps; lamp++) {
      loom.addLamp(lamp % 5 + 1, 3 + 2 * lamp, 2 + lamp, 9 - lamp);
      loom.setShift(lamp, lamp + 1);
    }
    loom.setLimit(19);
    loom.pass(23);
    return loom;
  }

  /** The ends of a range, and the numbers beside them that are still in it. */
  static int[] ends(int least, int most) {
    return java.util.stream.IntStream.of(least, least + 1, most - 1, most)
        .filter(number -> number >= least && number <= most).distinct().toArray();
  }
}
