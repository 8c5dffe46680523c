import java.util.ArrayList;

/** A loom of light pulses in a shop window: lamps that light up and go dark, each in its own period. */
public final class PulseLoom {
  private static final int MOST_LAMPS = 8;
  private static final int COLOURS = 6;
  private static final int LEAST_PERIOD = 2;
  private static final int MOST_PERIOD = 20;
  private static final int MOST_POWER = 9;
  private static final int FIRST_LIMIT = 20;
  private static final int MOST_LIMIT = 99;
  private static final int MOST_BEATS = 200;
  private static final int MOST_DUE_BEATS = 100000;
  private static final int DIGEST_START = 2297;
  private static final int DIGEST_FACTOR = 31;
  private static final int DIGEST_BEATS = 12;

  /** One lamp, with what was counted of it. */
  private static final class Lamp {
    // Always 2 to 20; the looks at it ahead of each division are there because LANGUAGE.md asks for them.
    final int period;
    final int power;
    int colour;
    int shift;
    int length;
    int beatsShone;
    int beatsDark;
    // Scratch, written anew before each use: kept here so that no call makes an array.
    boolean lit;
    int foreseen;

    Lamp(int colour, int period, int length, int power) {
      this.colour = colour;
      this.period = period;
      this.length = length;
      this.power = power;
      this.shift = 0;
      this.beatsShone = 0;
      this.beatsDark = 0;
      this.lit = false;
      this.foreseen = 0;
    }

    int phaseAt(int beat) {
      return period < 1 ? 0 : (beat + shift) % period;
    }

    boolean dueAt(int beat) {
      return phaseAt(beat) < length;
    }

    boolean lightsUpAt(int beat) {
      return phaseAt(beat) == 0;
    }

    int beatsUntilItLightsUp(int beat) {
      int phase = phaseAt(beat);
      return phase == 0 ? 0 : period - phase;
    }

    int countDue(int from, int beats) {
      if (period < 1) {
        return 0;
      }
      int due = beats / period * length;
      int left = beats % period;
      for (int i = 0; i < left; i++) {
        if (dueAt(from + i)) {
          due++;
        }
      }
      return due;
    }
  }

  private final ArrayList<Lamp> row;
  private int now;
  private int mostPower;

  public PulseLoom() {
    row = new ArrayList<Lamp>();
    now = 0;
    mostPower = FIRST_LIMIT;
  }

  // ---- lamps

  public int addLamp(int colour, int period, int length, int power)
      throws IllegalArgumentException, IllegalStateException {
    refuseOutside(colour, 0, COLOURS - 1);
    refuseOutside(period, LEAST_PERIOD, MOST_PERIOD);
    refuseOutside(length, 1, period - 1);
    refuseOutside(power, 1, MOST_POWER);
    if (row.size() >= MOST_LAMPS) {
      throw new IllegalStateException("there are 8 lamps");
    }
    row.add(new Lamp(colour, period, length, power));
    return row.size() - 1;
  }

  public int setShift(int lamp, int shift) throws IndexOutOfBoundsException, IllegalArgumentException {
    Lamp changed = lampAt(lamp);
    refuseOutside(shift, 0, changed.period - 1);
    int before = changed.shift;
    changed.shift = shift;
    return before;
  }

  public int setLength(int lamp, int length) throws IndexOutOfBoundsException, IllegalArgumentException {
    Lamp changed = lampAt(lamp);
    refuseOutside(length, 1, changed.period - 1);
    int before = changed.length;
    changed.length = length;
    return before;
  }

  public boolean swapColours(int one, int other) throws IndexOutOfBoundsException, IllegalArgumentException {
    Lamp first = lampAt(one);
    Lamp second = lampAt(other);
    if (one == other) {
      throw new IllegalArgumentException("both lamps are the same");
    }
    int colour = first.colour;
    first.colour = second.colour;
    second.colour = colour;
    return first.colour != second.colour;
  }

  public int setLimit(int limit) throws IllegalArgumentException {
    refuseOutside(limit, 0, MOST_LIMIT);
    int before = mostPower;
    mostPower = limit;
    return before;
  }

  public int pass(int beats) throws IllegalArgumentException {
    refuseOutside(beats, 1, MOST_BEATS);
    int darkened = 0;
    for (int i = 0; i < beats; i++) {
      if (playBeat()) {
        darkened++;
      }
    }
    return darkened;
  }

  // ---- now

  public int beat() {
    return now;
  }

  public int lamps() {
    return row.size();
  }

  public int limit() {
    return mostPower;
  }

  public int power() {
    return lightLamps(now);
  }

  public int phaseOf(int lamp) throws IndexOutOfBoundsException {
    return lampAt(lamp).phaseAt(now);
  }

  public boolean isDue(int lamp) throws IndexOutOfBoundsException {
    return lampAt(lamp).dueAt(now);
  }

  public boolean shines(int lamp) throws IndexOutOfBoundsException {
    Lamp asked = lampAt(lamp);
    lightLamps(now);
    return asked.lit;
  }

  public int colourOf(int lamp) throws IndexOutOfBoundsException {
    return lampAt(lamp).colour;
  }

  public int shiftOf(int lamp) throws IndexOutOfBoundsException {
    return lampAt(lamp).shift;
  }

  // ---- counted

  public int shone(int lamp) throws IndexOutOfBoundsException {
    return lampAt(lamp).beatsShone;
  }

  public int stayedDark(int lamp) throws IndexOutOfBoundsException {
    return lampAt(lamp).beatsDark;
  }

  public int seen(int colour) throws IllegalArgumentException {
    refuseOutside(colour, 0, COLOURS - 1);
    int added = 0;
    for (int i = 0; i < row.size(); i++) {
      Lamp lamp = row.get(i);
      if (lamp.colour == colour) {
        added += lamp.beatsShone;
      }
    }
    return added;
  }

  public int unfairness() {
    return unfairnessBehind(0);
  }

  // ---- periods

  public long together() {
    long all = 1;
    for (int i = 0; i < row.size(); i++) {
      all = smallestMultiple(all, row.get(i).period);
    }
    return all;
  }

  public int divisor(int one, int other) throws IndexOutOfBoundsException {
    Lamp first = lampAt(one);
    Lamp second = lampAt(other);
    return greatestDivisor(first.period, second.period);
  }

  public boolean meet(int one, int other) throws IndexOutOfBoundsException {
    Lamp first = lampAt(one);
    Lamp second = lampAt(other);
    return wouldMeet(first, first.shift, second);
  }

  public int beatsUntilMeet(int one, int other) throws IndexOutOfBoundsException {
    Lamp first = lampAt(one);
    Lamp second = lampAt(other);
    int wait = first.beatsUntilItLightsUp(now);
    // Behind as many periods of the first as the second's period is long, both begin anew.
    for (int i = 0; i < second.period; i++) {
      if (second.lightsUpAt(now + wait)) {
        return wait;
      }
      wait += first.period;
    }
    return -1;
  }

  public int meets(int lamp) throws IndexOutOfBoundsException {
    Lamp asked = lampAt(lamp);
    return countMet(asked, asked.shift);
  }

  public int apart() {
    int pairs = 0;
    for (int i = 0; i < row.size(); i++) {
      Lamp first = row.get(i);
      for (int j = i + 1; j < row.size(); j++) {
        if (!wouldMeet(first, first.shift, row.get(j))) {
          pairs++;
        }
      }
    }
    return pairs;
  }

  // ---- what would be

  public int bestShift(int lamp) throws IndexOutOfBoundsException {
    Lamp asked = lampAt(lamp);
    int best = 0;
    int fewest = countMet(asked, 0);
    for (int shift = 1; shift < asked.period; shift++) {
      int met = countMet(asked, shift);
      if (met < fewest) {
        fewest = met;
        best = shift;
      }
    }
    return best;
  }

  public int dueIn(int lamp, int beats) throws IndexOutOfBoundsException, IllegalArgumentException {
    Lamp asked = lampAt(lamp);
    refuseOutside(beats, 1, MOST_DUE_BEATS);
    return asked.countDue(now, beats);
  }

  public int brightest(int beats) throws IllegalArgumentException {
    refuseOutside(beats, 1, MOST_BEATS);
    int most = 0;
    for (int i = 0; i < beats; i++) {
      most = Math.max(most, lightLamps(now + i));
    }
    return most;
  }

  public int unfairnessIn(int beats) throws IllegalArgumentException {
    refuseOutside(beats, 1, MOST_BEATS);
    return unfairnessBehind(beats);
  }

  public int limitWanted(int beats) throws IllegalArgumentException {
    refuseOutside(beats, 1, MOST_BEATS);
    // All 8 lamps take 72 at most, so a limit that lets all that are due shine is always among 0 to 99.
    int most = 0;
    for (int i = 0; i < beats; i++) {
      most = Math.max(most, duePower(now + i));
    }
    return most;
  }

  public double meanShone() {
    int count = row.size();
    if (count < 1) {
      return 0.0;
    }
    int added = 0;
    for (int i = 0; i < row.size(); i++) {
      added += row.get(i).beatsShone;
    }
    return (double) added / (double) count;
  }

  public long digest() {
    long d = DIGEST_START;
    d = joined(d, beat());
    d = joined(d, lamps());
    d = joined(d, limit());
    d = joined(d, power());
    d = joined(d, unfairness());
    d = joined(d, together());
    d = joined(d, apart());
    d = joined(d, brightest(DIGEST_BEATS));
    d = joined(d, unfairnessIn(DIGEST_BEATS));
    d = joined(d, limitWanted(DIGEST_BEATS));
    for (int i = 0; i < row.size(); i++) {
      d = joinedWithLamp(d, i);
    }
    for (int colour = 0; colour < COLOURS; colour++) {
      d = joined(d, seen(colour));
    }
    return d;
  }

  // ---- what they share

  private static void refuseOutside(int number, int least, int most) {
    if (number < least || number > most) {
      throw new IllegalArgumentException("a number is outside what is allowed");
    }
  }

  private Lamp lampAt(int number) {
    if (number < 0 || number >= row.size()) {
      throw new IndexOutOfBoundsException("there is no such lamp");
    }
    return row.get(number);
  }

  /** Marks the lamps that shine in a beat as lit; answers their power, added. */
  private int lightLamps(int beat) {
    int added = 0;
    for (int i = 0; i < row.size(); i++) {
      Lamp lamp = row.get(i);
      lamp.lit = lamp.dueAt(beat) && added + lamp.power <= mostPower;
      if (lamp.lit) {
        added += lamp.power;
      }
    }
    return added;
  }

  private int duePower(int beat) {
    int added = 0;
    for (int i = 0; i < row.size(); i++) {
      Lamp lamp = row.get(i);
      if (lamp.dueAt(beat)) {
        added += lamp.power;
      }
    }
    return added;
  }

  /** Lets one beat go by; answers whether some lamp stayed dark in it though it was due. */
  private boolean playBeat() {
    lightLamps(now);
    boolean someDark = false;
    for (int i = 0; i < row.size(); i++) {
      Lamp lamp = row.get(i);
      if (lamp.lit) {
        lamp.beatsShone++;
      } else if (lamp.dueAt(now)) {
        lamp.beatsDark++;
        someDark = true;
      }
    }
    now++;
    return someDark;
  }

  private int unfairnessBehind(int beats) {
    for (int i = 0; i < row.size(); i++) {
      Lamp lamp = row.get(i);
      lamp.foreseen = lamp.beatsShone;
    }
    for (int i = 0; i < beats; i++) {
      foreseeBeat(now + i);
    }
    return foreseenSpread();
  }

  private void foreseeBeat(int beat) {
    lightLamps(beat);
    for (int i = 0; i < row.size(); i++) {
      Lamp lamp = row.get(i);
      if (lamp.lit) {
        lamp.foreseen++;
      }
    }
  }

  private int foreseenSpread() {
    int most = -1;
    int least = -1;
    for (int colour = 0; colour < COLOURS; colour++) {
      int added = foreseenOf(colour);
      if (added >= 0) {
        most = Math.max(most, added);
        least = least < 0 ? added : Math.min(least, added);
      }
    }
    return most - least;
  }

  /** What lamps of a colour are foreseen to have shone, added; -1 if no lamp has it. */
  private int foreseenOf(int colour) {
    int added = -1;
    for (int i = 0; i < row.size(); i++) {
      Lamp lamp = row.get(i);
      if (lamp.colour == colour) {
        added = Math.max(added, 0) + lamp.foreseen;
      }
    }
    return added;
  }

  private int countMet(Lamp lamp, int shift) {
    int met = 0;
    for (int i = 0; i < row.size(); i++) {
      Lamp other = row.get(i);
      if (other != lamp && wouldMeet(lamp, shift, other)) {
        met++;
      }
    }
    return met;
  }

  // Both light up in one beat, if and only if their shifts leave the same rest in the periods' greatest divisor.
  private static boolean wouldMeet(Lamp lamp, int shift, Lamp other) {
    return divides(greatestDivisor(lamp.period, other.period), shift - other.shift);
  }

  private static boolean divides(int divisor, long number) {
    return divisor > 0 && number % divisor == 0;
  }

  private static int greatestDivisor(int one, int other) {
    for (int divisor = one; divisor > 1; divisor--) {
      if (divides(divisor, one) && divides(divisor, other)) {
        return divisor;
      }
    }
    return 1;
  }

  /** The smallest multiple of a number that a period divides. */
  private static long smallestMultiple(long number, int period) {
    for (int times = 1; times < period; times++) {
      if (divides(period, number * times)) {
        return number * times;
      }
    }
    return number * period;
  }

  private static long joined(long d, long number) {
    return d * DIGEST_FACTOR + number;
  }

  private long joinedWithLamp(long before, int lamp) {
    long d = before;
    d = joined(d, phaseOf(lamp));
    d = joined(d, isDue(lamp) ? 1 : 0);
    d = joined(d, shines(lamp) ? 1 : 0);
    d = joined(d, colourOf(lamp));
    d = joined(d, shone(lamp));
    d = joined(d, stayedDark(lamp));
    d = joined(d, meets(lamp));
    d = joined(d, bestShift(lamp));
    for (int other = 0; other < row.size(); other++) {
      d = joined(d, beatsUntilMeet(lamp, other));
    }
    return d;
  }
}
