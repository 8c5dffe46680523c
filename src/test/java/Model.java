import java.util.ArrayList;
import java.util.List;

/** The document's words played out as slowly and as plainly as can be: beat by beat, number by number. */
final class Model {
  final List<int[]> lamps = new ArrayList<>();
  int beat = 0;
  int limit = 20;

  private static final int COLOUR = 0;
  private static final int PERIOD = 1;
  private static final int LENGTH = 2;
  private static final int POWER = 3;
  private static final int SHIFT = 4;
  private static final int SHONE = 5;
  private static final int DARK = 6;
  /** Two periods of at most 20 begin anew together behind at most 20 times 20 beats. */
  private static final int ANEW = 400;

  Model copy() {
    Model other = new Model();
    for (int[] lamp : lamps) {
      other.lamps.add(lamp.clone());
    }
    other.beat = beat;
    other.limit = limit;
    return other;
  }

  int addLamp(int colour, int period, int length, int power) {
    boolean allowed = colour >= 0 && colour <= 5 && period >= 2 && period <= 20
        && length >= 1 && length <= period - 1 && power >= 1 && power <= 9;
    if (!allowed) {
      throw new IllegalArgumentException();
    }
    if (lamps.size() == 8) {
      throw new IllegalStateException();
    }
    lamps.add(new int[] {colour, period, length, power, 0, 0, 0});
    return lamps.size() - 1;
  }

  int setShift(int lamp, int shift) {
    int[] it = at(lamp);
    allow(shift >= 0 && shift <= it[PERIOD] - 1);
    int before = it[SHIFT];
    it[SHIFT] = shift;
    return before;
  }

  int setLength(int lamp, int length) {
    int[] it = at(lamp);
    allow(length >= 1 && length <= it[PERIOD] - 1);
    int before = it[LENGTH];
    it[LENGTH] = length;
    return before;
  }

  boolean swapColours(int one, int other) {
    int[] a = at(one);
    int[] b = at(other);
    allow(one != other);
    int colour = a[COLOUR];
    a[COLOUR] = b[COLOUR];
    b[COLOUR] = colour;
    return a[COLOUR] != b[COLOUR];
  }

  int setLimit(int to) {
    allow(to >= 0 && to <= 99);
    int before = limit;
    limit = to;
    return before;
  }

  int pass(int beats) {
    allow(beats >= 1 && beats <= 200);
    int count = 0;
    for (int i = 0; i < beats; i++) {
      int darkBefore = darkOfAll();
      for (int lamp = 0; lamp < lamps.size(); lamp++) {
        if (shinesIn(lamp, beat)) {
          lamps.get(lamp)[SHONE]++;
        } else if (dueIn1(lamp, beat)) {
          lamps.get(lamp)[DARK]++;
        }
      }
      if (darkOfAll() > darkBefore) {
        count++;
      }
      beat++;
    }
    return count;
  }

  int power() {
    return powerBelow(lamps.size(), beat);
  }

  int phaseOf(int lamp) {
    return phaseIn(at(lamp), beat);
  }

  boolean isDue(int lamp) {
    at(lamp);
    return dueIn1(lamp, beat);
  }

  boolean shines(int lamp) {
    at(lamp);
    return shinesIn(lamp, beat);
  }

  int colourOf(int lamp) {
    return at(lamp)[COLOUR];
  }

  int shiftOf(int lamp) {
    return at(lamp)[SHIFT];
  }

  int shone(int lamp) {
    return at(lamp)[SHONE];
  }

  int stayedDark(int lamp) {
    return at(lamp)[DARK];
  }

  int seen(int colour) {
    allow(colour >= 0 && colour <= 5);
    return lamps.stream().filter(lamp -> lamp[COLOUR] == colour).mapToInt(lamp -> lamp[SHONE]).sum();
  }

  int unfairness() {
    int[] colours = lamps.stream().mapToInt(lamp -> lamp[COLOUR]).distinct().toArray();
    int worst = 0;
    for (int more : colours) {
      for (int less : colours) {
        worst = Math.max(worst, seen(more) - seen(less));
      }
    }
    return worst;
  }

  long together() {
    java.math.BigInteger all = java.math.BigInteger.ONE;
    for (int[] lamp : lamps) {
      java.math.BigInteger period = java.math.BigInteger.valueOf(lamp[PERIOD]);
      all = all.multiply(period).divide(all.gcd(period));
    }
    return all.longValue();
  }

  int divisor(int one, int other) {
    int a = at(one)[PERIOD];
    int b = at(other)[PERIOD];
    int greatest = 1;
    for (int d = 1; d <= 20; d++) {
      if (a % d == 0 && b % d == 0) {
        greatest = d;
      }
    }
    return greatest;
  }

  boolean meet(int one, int other) {
    return beatsUntilMeet(one, other) >= 0;
  }

  int beatsUntilMeet(int one, int other) {
    int[] a = at(one);
    int[] b = at(other);
    for (int i = 0; i < ANEW; i++) {
      if (phaseIn(a, beat + i) == 0 && phaseIn(b, beat + i) == 0) {
        return i;
      }
    }
    return -1;
  }

  int meets(int lamp) {
    at(lamp);
    int count = 0;
    for (int other = 0; other < lamps.size(); other++) {
      if (other != lamp && meet(lamp, other)) {
        count++;
      }
    }
    return count;
  }

  int apart() {
    int count = 0;
    for (int one = 0; one < lamps.size(); one++) {
      for (int other = 0; other < one; other++) {
        if (!meet(one, other)) {
          count++;
        }
      }
    }
    return count;
  }

  int bestShift(int lamp) {
    Model tried = copy();
    int best = -1;
    int fewest = 100;
    for (int shift = 0; shift < at(lamp)[PERIOD]; shift++) {
      tried.setShift(lamp, shift);
      if (tried.meets(lamp) < fewest) {
        fewest = tried.meets(lamp);
        best = shift;
      }
    }
    return best;
  }

  int dueIn(int lamp, int beats) {
    at(lamp);
    allow(beats >= 1 && beats <= 100000);
    int count = 0;
    for (int i = 0; i < beats; i++) {
      if (dueIn1(lamp, beat + i)) {
        count++;
      }
    }
    return count;
  }

  int brightest(int beats) {
    allow(beats >= 1 && beats <= 200);
    Model tried = copy();
    int most = 0;
    for (int i = 0; i < beats; i++) {
      most = Math.max(most, tried.power());
      tried.pass(1);
    }
    return most;
  }

  int unfairnessIn(int beats) {
    Model tried = copy();
    tried.pass(beats);
    return tried.unfairness();
  }

  int limitWanted(int beats) {
    allow(beats >= 1 && beats <= 200);
    for (int tryLimit = 0; tryLimit <= 99; tryLimit++) {
      Model tried = copy();
      tried.setLimit(tryLimit);
      if (tried.pass(beats) == 0) {
        return tryLimit;
      }
    }
    throw new AssertionError("no limit is enough");
  }

  double meanShone() {
    return lamps.stream().mapToInt(lamp -> lamp[SHONE]).average().orElse(0);
  }

  long digest() {
    long d = 2297;
    for (long x : digested()) {
      d = d * 31 + x;
    }
    return d;
  }

  private List<Long> digested() {
    List<Long> all = new ArrayList<>(List.of((long) beat, (long) lamps.size(), (long) limit, (long) power(),
        (long) unfairness(), together(), (long) apart(), (long) brightest(12), (long) unfairnessIn(12),
        (long) limitWanted(12)));
    for (int i = 0; i < lamps.size(); i++) {
      all.addAll(List.of((long) phaseOf(i), isDue(i) ? 1L : 0L, shines(i) ? 1L : 0L, (long) colourOf(i),
          (long) shone(i), (long) stayedDark(i), (long) meets(i), (long) bestShift(i)));
      for (int other = 0; other < lamps.size(); other++) {
        all.add((long) beatsUntilMeet(i, other));
      }
    }
    for (int colour = 0; colour < 6; colour++) {
      all.add((long) seen(colour));
    }
    return all;
  }

  private static void allow(boolean allowed) {
    if (!allowed) {
      throw new IllegalArgumentException();
    }
  }

  private int[] at(int lamp) {
    if (lamp < 0 || lamp >= lamps.size()) {
      throw new IndexOutOfBoundsException();
    }
    return lamps.get(lamp);
  }

  private static int phaseIn(int[] lamp, int when) {
    return (when + lamp[SHIFT]) % lamp[PERIOD];
  }

  private boolean dueIn1(int lamp, int when) {
    int[] it = lamps.get(lamp);
    return phaseIn(it, when) < it[LENGTH];
  }

  private boolean shinesIn(int lamp, int when) {
    return dueIn1(lamp, when) && powerBelow(lamp, when) + lamps.get(lamp)[POWER] <= limit;
  }

  /** The power of those that shine among the lamps ahead of one, added. */
  private int powerBelow(int lamp, int when) {
    int added = 0;
    for (int i = 0; i < lamp; i++) {
      int[] it = lamps.get(i);
      if (phaseIn(it, when) < it[LENGTH] && added + it[POWER] <= limit) {
        added += it[POWER];
      }
    }
    return added;
  }

  private int darkOfAll() {
    return lamps.stream().mapToInt(lamp -> lamp[DARK]).sum();
  }
}
